theorem c_liked {scr : List zV} {d : Nat} {T : List Nat} {h : zH} {q : Nat} {Φ : List Nat → zH → Prop} {N : Nat} {b st : Int32} {post : Option zV → zH → Bool} (ok : wOK Φ N T h) (hq_q : T[q]? = some 5) (hb : 0 ≤ b.toInt ∧ b.toInt ≤ 3) (kk : ∀ r : Int32, post (some (.inl (.int r))) h = true) : zD zprog scr (d + 1) 196 [.inl (.ref q), .inl (.int b), .inl (.int st)] h post = true := by
  refine zD_intro (E := ze_X5_liked) rfl rfl (fun G HW => ?_)
  obtain ⟨nT, gT, eT, lT, uT⟩ := hi_val (i := 17) ok.1 hq_q (by decide) rfl
  have lT : (0 : Int) ≤ nT.toInt := lT
  have uT : nT.toInt ≤ (8 : Int) := uT
  have loop : ∀ i j : Nat, ((i + j : Nat) : Int) = nT.toInt → ∀ (m : Int32), G (5, [(4, .inl (.int (Int32.ofNat j))), (3, .inl (.int m)), (0, .inl (.ref q)), (1, .inl (.int b)), (2, .inl (.int st))], [], h, 0, 0) := by
    intro i
    induction i with
    | zero =>
      intro j hj m 
      have ej := nI_int (k := j) (by omega)
      have ejn : (Int32.ofNat j).toInt.toNat = j := by omega
      refine zrn_ok HW 2 (zB_iff.mpr (?_ : G (8, [(4, .inl (.int (Int32.ofNat j))), (3, .inl (.int m)), (0, .inl (.ref q)), (1, .inl (.int b)), (2, .inl (.int st))], [.inl (.ref q), .inl (.int (Int32.ofNat j))], h, 0, 0)))
      refine g_getf HW rfl ok.1 hq_q rfl gT ?_
      refine zrn_ok HW 1 (zbr_ex (cd := .ge) (x := (Int32.ofNat j)) (y := nT) (fun hc2 => zB_iff.mpr ?_) (fun hc2 => zB_iff.mpr ?_))
      · -- pc 45
        have i2 : (Int32.ofNat j).toInt ≥ nT.toInt := zop_int.mp hc2
        refine zrn_ok HW 2 ?_
        exact zret_i rfl rfl (kk _)
      · -- pc 14
        have i2 : ¬ ((Int32.ofNat j).toInt ≥ nT.toInt) := fun e => hc2 (zop_int.mpr e)
        exfalso
        omega
    | succ i ih =>
      intro j hj m 
      have ej := nI_int (k := j) (by omega)
      have ejn : (Int32.ofNat j).toInt.toNat = j := by omega
      refine zrn_ok HW 2 (zB_iff.mpr (?_ : G (8, [(4, .inl (.int (Int32.ofNat j))), (3, .inl (.int m)), (0, .inl (.ref q)), (1, .inl (.int b)), (2, .inl (.int st))], [.inl (.ref q), .inl (.int (Int32.ofNat j))], h, 0, 0)))
      refine g_getf HW rfl ok.1 hq_q rfl gT ?_
      refine zrn_ok HW 1 (zbr_ex (cd := .ge) (x := (Int32.ofNat j)) (y := nT) (fun hc2 => zB_iff.mpr ?_) (fun hc2 => zB_iff.mpr ?_))
      · -- pc 45
        have i2 : (Int32.ofNat j).toInt ≥ nT.toInt := zop_int.mp hc2
        exfalso
        omega
      · -- pc 14
        have i2 : ¬ ((Int32.ofNat j).toInt ≥ nT.toInt) := fun e => hc2 (zop_int.mpr e)
        refine zrn_ok HW 7 (zbr_ex (cd := .eq) (x := ((st >>> ((Int32.ofNat j) &&& 31)) &&& (1 : Int32))) (y := (0 : Int32)) (fun hc3 => zB_iff.mpr ?_) (fun hc3 => zB_iff.mpr ?_))
        · -- pc 36
          have i3 : ((st >>> ((Int32.ofNat j) &&& 31)) &&& (1 : Int32)).toInt = (0 : Int) := zop_int.mp hc3
          refine zrn_ok HW 5 (zB_iff.mpr (?_ : G (5, [(4, .inl (.int ((Int32.ofNat j) + (1 : Int32)))), (3, .inl (.int (m + (0 : Int32)))), (0, .inl (.ref q)), (1, .inl (.int b)), (2, .inl (.int st))], [], h, 0, 0)))
          have := ih (j + 1) (by omega) (m + (0 : Int32))
          rw [← nI_add1] at this
          exact this
        · -- pc 24
          have i3 : ¬ (((st >>> ((Int32.ofNat j) &&& 31)) &&& (1 : Int32)).toInt = (0 : Int)) := fun e => hc3 (zop_int.mpr e)
          refine zrn_ok HW 1 (zB_iff.mpr (?_ : G (25, [(4, .inl (.int (Int32.ofNat j))), (3, .inl (.int m)), (0, .inl (.ref q)), (1, .inl (.int b)), (2, .inl (.int st))], [.inl (.ref q), .inl (.int m)], h, 0, 0)))
          obtain ⟨v4, g4, s4⟩ := hOK_get (i := 25) ok.1 hq_q (by decide)
          obtain ⟨q4, rfl, hq4⟩ : ∃ q : Nat, v4 = .inl (.ref q) ∧ T[q]? = some 38 := s4
          refine g_getf HW rfl ok.1 hq_q rfl g4 ?_
          refine zrn_ok HW 1 (zB_iff.mpr (?_ : G (29, [(4, .inl (.int (Int32.ofNat j))), (3, .inl (.int m)), (0, .inl (.ref q)), (1, .inl (.int b)), (2, .inl (.int st))], [.inl (.int b), .inl (.ref q4), .inl (.int m)], h, 0, 0)))
          obtain ⟨v5, g5, s5⟩ := hOK_get (i := (b).toInt.toNat) ok.1 hq4 (by show _ < 4; omega)
          obtain ⟨q5, rfl, hq5⟩ : ∃ q : Nat, v5 = .inl (.ref q) ∧ T[q]? = some 39 := s5
          refine g_aald HW rfl ok.1 hq4 ⟨by decide, by decide⟩ (by omega) g5 ?_
          refine zrn_ok HW 1 (zB_iff.mpr (?_ : G (32, [(4, .inl (.int (Int32.ofNat j))), (3, .inl (.int m)), (0, .inl (.ref q)), (1, .inl (.int b)), (2, .inl (.int st))], [.inl (.int (Int32.ofNat j)), .inl (.ref q5), .inl (.int m)], h, 0, 0)))
          obtain ⟨x6, g6, e6, l6, u6⟩ := hi_val (i := ((Int32.ofNat j)).toInt.toNat) ok.1 hq5 (by show _ < 8; omega) rfl
          have l6 : ((-2147483648) : Int) ≤ x6.toInt := l6
          have u6 : x6.toInt ≤ (2147483647 : Int) := u6
          refine g_iald HW rfl ok.1 hq5 rfl (by omega) g6 ?_
          refine zrn_ok HW 5 (zB_iff.mpr (?_ : G (5, [(4, .inl (.int ((Int32.ofNat j) + (1 : Int32)))), (3, .inl (.int (m + x6))), (0, .inl (.ref q)), (1, .inl (.int b)), (2, .inl (.int st))], [], h, 0, 0)))
          have := ih (j + 1) (by omega) (m + x6)
          rw [← nI_add1] at this
          exact this
  refine zrn_ok HW 4 (zB_iff.mpr (?_ : G (5, [(4, .inl (.int (0 : Int32))), (3, .inl (.int (0 : Int32))), (0, .inl (.ref q)), (1, .inl (.int b)), (2, .inl (.int st))], [], h, 0, 0)))
  exact loop nT.toInt.toNat 0 (by omega) 0
/-- only values of states are written -/
def vFr (T : List Nat) (h h' : zH) : Prop := ∀ p i : Nat, T[p]? ≠ some 42 → hget h' p i = hget h p i
/-- a go can be worth something: a blank, or a thing that isn't held back -/
def vQ (h : zH) (st : Int32) (g : Int) : Prop := popc st 8 < hi h 49 38 - g ∨ ∃ t : Nat, (t : Int) < hi h 49 17 ∧ nbt st t = 1 ∧ ((hi h 67 t ≠ 4 ∧ hi h 67 t ≠ 5) ∨ (2 * hi h 69 t ≤ (Int32.ofInt (hi h 49 37 + g)).toInt ∧ (hi h 67 t = 4 ∨ 2 * (hi h 49 38 - g) ≤ hi h 49 9)))
def vCon (P : pP) (N : Nat) (T : List Nat) (scr : List zV) (d : Nat) (g : Int32) : Prop := ∀ (h : zH) (st : Int32) (post : Option zV → zH → Bool), wOK (zPhi P) N T h → 0 ≤ st.toInt → st.toInt ≤ 255 → popc st 8 ≤ hi h 49 38 - g.toInt →
  (∀ (r : Int64) (h' : zH), wOK (zPhi P) N T h' → vFr T h h' → ((∃ w rw : Nat, hget h 49 35 = some (.inl (.ref w)) ∧ hget h w g.toInt.toNat = some (.inl (.ref rw)) ∧ hget h rw st.toInt.toNat = some (.inl (.long (-1)))) → r.toInt ≠ 0 → vQ h st g.toInt) → post (some (.inl (.long r))) h' = true) → zD zprog scr d 241 [.inl (.ref 49), .inl (.int st), .inl (.int g)] h post = true
theorem vFr_hi {T : List Nat} {h h' : zH} (f : vFr T h h') {p i τ : Nat} (hp : T[p]? = some τ) (hne : τ ≠ 42) : hi h' p i = hi h p i := hi_eq (f p i (by rw [hp]; exact fun e => hne (Option.some.inj e)))
theorem vFr_get {T : List Nat} {h h' : zH} (f : vFr T h h') {p i τ : Nat} (hp : T[p]? = some τ) (hne : τ ≠ 42) : hget h' p i = hget h p i := f p i (by rw [hp]; exact fun e => hne (Option.some.inj e))
theorem popc_has {x : Int32} : ∀ {k u : Nat}, k ≤ 32 → u < k → nbt x u = 1 → 1 ≤ popc x k
  | 0, _, _, h, _ => absurd h (by omega)
  | k + 1, u, hk, hu, h1 => by
    show 1 ≤ popc x k + nbt x k
    have h2 := nb_01 (x := x) (t := k) (by omega)
    have h3 := popc_b (x := x) (k := k) (by omega)
    by_cases e : u = k
    · subst e
      omega
    · have := popc_has (x := x) (k := k) (u := u) (by omega) (by omega) h1
      omega
theorem nz_L {y : Int32} (h : y.toInt ≠ 0) : (!((Int32.toInt64 y) == 0)) = true := by
  have : Int32.toInt64 y ≠ 0 := fun e => by
    have e2 := congrArg Int64.toInt e
    rw [q_i2l] at e2
    exact h e2
  simpa using this
theorem c_foundAt {P : pP} {N : Nat} {scr : List zV} {d : Nat} {T : List Nat} {h : zH} {st g : Int32} {post : Option zV → zH → Bool} (hV : ∀ g1 : Int32, g1.toInt = g.toInt + 1 → vCon P N T scr (d + 2) g1) (ok : wOK (zPhi P) N T h) (hs0 : 0 ≤ st.toInt) (hs1 : st.toInt ≤ 255) (hg : 0 ≤ g.toInt) (hp : popc st 8 ≤ hi h 49 38 - g.toInt)
    (kk : ∀ (r : Int64) (h' : zH), wOK (zPhi P) N T h' → vFr T h h' → (r.toInt ≠ 0 → vQ h st g.toInt) → post (some (.inl (.long r))) h' = true) : zD zprog scr (d + 3) 182 [.inl (.ref 49), .inl (.int st), .inl (.int g)] h post = true := by
  have hq_q := ok.2.1.1.2.2.1
  have hst := p_stab P
  obtain ⟨lay, hJ⟩ := ok.2.1.2.1 49 5 hq_q (Or.inl rfl)
  obtain ⟨nT, gT, eT, lT, uT⟩ := hi_val (i := 17) ok.1 hq_q (by decide) rfl
  have lT : (0 : Int) ≤ nT.toInt := lT
  have uT : nT.toInt ≤ (8 : Int) := uT
  obtain ⟨vI, gI, eI, lI, uI⟩ := hi_val (i := 38) ok.1 hq_q (by decide) rfl
  have lI : (0 : Int) ≤ vI.toInt := lI
  have uI : vI.toInt ≤ (60 : Int) := uI
  obtain ⟨vF, gF, eF, -, -⟩ := hi_val (i := 37) ok.1 hq_q (by decide) rfl
  have t67 : T[67]? = some 32 := (lay.1 (18, 18, 32) (by decide +kernel)).2
  have t69 : T[69]? = some 34 := (lay.1 (20, 20, 34) (by decide +kernel)).2
  have pb := popc_b (x := st) (k := 8) (by omega)
  have g60 : g.toInt ≤ 60 := by omega
  have e1 : (g + (1 : Int32)).toInt = g.toInt + 1 := t_inc (by omega)
  have vV := hV _ e1
  refine zD_intro (E := ze_X5_foundAt) rfl rfl (fun G HW => ?_)
  have loop : ∀ (l b : Int32), l.toInt = vI.toInt - g.toInt → ∀ i j : Nat, ((i + j : Nat) : Int) = nT.toInt → ∀ (hl : zH) (m : Int32) (sum : Int64), wOK (zPhi P) N T hl → vFr T h hl → (m.toInt ≠ 0 → vQ h st g.toInt) → (G (45, [(8, .inl (.int (Int32.ofNat j))), (6, .inl (.long sum)), (5, .inl (.int m)), (4, .inl (.int b)), (3, .inl (.int l)), (0, .inl (.ref 49)), (1, .inl (.int st)), (2, .inl (.int g))], [], hl, 0, 0) ∧ ∀ w : Int32, G (45, [(8, .inl (.int (Int32.ofNat j))), (6, .inl (.long sum)), (5, .inl (.int m)), (9, .inl (.int w)), (4, .inl (.int b)), (3, .inl (.int l)), (0, .inl (.ref 49)), (1, .inl (.int st)), (2, .inl (.int g))], [], hl, 0, 0)) := by
    intro l b el i
    induction i with
    | zero =>
      intro j hj hl m sum okl Fl y0
      have ej := nI_int (k := j) (by omega)
      have ejn : (Int32.ofNat j).toInt.toNat = j := by omega
      refine ⟨?_, fun w => ?_⟩
      · refine zrn_ok HW 2 (zB_iff.mpr (?_ : G (48, [(8, .inl (.int (Int32.ofNat j))), (6, .inl (.long sum)), (5, .inl (.int m)), (4, .inl (.int b)), (3, .inl (.int l)), (0, .inl (.ref 49)), (1, .inl (.int st)), (2, .inl (.int g))], [.inl (.ref 49), .inl (.int (Int32.ofNat j))], hl, 0, 0)))
        have g2 : hget hl 49 17 = some (.inl (.int nT)) := (vFr_get Fl hq_q (by decide)).trans gT
        refine g_getf HW rfl okl.1 hq_q rfl g2 ?_
        refine zrn_ok HW 1 (zbr_ex (cd := .ge) (x := (Int32.ofNat j)) (y := nT) (fun hc3 => zB_iff.mpr ?_) (fun hc3 => zB_iff.mpr ?_))
        · -- pc 131
          have i3 : (Int32.ofNat j).toInt ≥ nT.toInt := zop_int.mp hc3
          refine zrn_ok HW 2 (zbr_ex (cd := .ne) (x := m) (y := (0 : Int32)) (fun hc4 => zB_iff.mpr ?_) (fun hc4 => zB_iff.mpr ?_))
          · -- pc 138
            have i4 : ¬ m.toInt = (0 : Int) := zop_int.mp hc4
            refine zrn_ok HW 1 (zB_iff.mpr (?_ : G (139, [(8, .inl (.int (Int32.ofNat j))), (6, .inl (.long sum)), (5, .inl (.int m)), (4, .inl (.int b)), (3, .inl (.int l)), (0, .inl (.ref 49)), (1, .inl (.int st)), (2, .inl (.int g))], [.inl (.ref 49)], hl, 0, 0)))
            obtain ⟨x5, g5, e5, l5, u5⟩ := hi_val (i := 39) okl.1 hq_q (by decide) rfl
            have l5 : (0 : Int) ≤ x5.toInt := l5
            have u5 : x5.toInt ≤ (61 : Int) := u5
            refine g_getf HW rfl okl.1 hq_q rfl g5 ?_
            refine zrn_ok HW 2 (zbr_ex (cd := .gt) (x := x5) (y := (60 : Int32)) (fun hc6 => zB_iff.mpr ?_) (fun hc6 => zB_iff.mpr ?_))
            · -- pc 154
              have i6 : x5.toInt > (60 : Int) := zop_int.mp hc6
              refine zrn_ok HW 4 (t_and2 (nz_L (y := m) (by omega)) (zB_iff.mpr (?_ : G (160, [(8, .inl (.int (Int32.ofNat j))), (6, .inl (.long sum)), (5, .inl (.int m)), (4, .inl (.int b)), (3, .inl (.int l)), (0, .inl (.ref 49)), (1, .inl (.int st)), (2, .inl (.int g))], [.inl (.long (sum / (Int32.toInt64 m)))], hl, 0, 0))))
              refine zrn_ok HW 2 (zB_iff.mpr (?_ : G (164, [(8, .inl (.int (Int32.ofNat j))), (6, .inl (.long sum)), (5, .inl (.int m)), (4, .inl (.int b)), (3, .inl (.int l)), (0, .inl (.ref 49)), (1, .inl (.int st)), (2, .inl (.int g))], [.inl (.ref 49), .inl (.long (1000 : Int64)), .inl (.long (sum / (Int32.toInt64 m)))], hl, 0, 0)))
              obtain ⟨x7, g7, e7, l7, u7⟩ := hi_val (i := 11) okl.1 hq_q (by decide) rfl
              have l7 : (1 : Int) ≤ x7.toInt := l7
              have u7 : x7.toInt ≤ (495 : Int) := u7
              refine g_getf HW rfl okl.1 hq_q rfl g7 ?_
              refine zrn_ok HW 8 (t_and2 (zisI_lcmp ((sum / (Int32.toInt64 m)) - ((1000 : Int64) * (Int32.toInt64 x7))) (0 : Int64)) (zbr_l (cd := .le) (x := ((sum / (Int32.toInt64 m)) - ((1000 : Int64) * (Int32.toInt64 x7)))) (y := (0 : Int64)) (fun hc8 => zB_iff.mpr ?_) (fun hc8 => zB_iff.mpr ?_)))
              · -- pc 184
                have i8 : (((sum / (Int32.toInt64 m)) - ((1000 : Int64) * (Int32.toInt64 x7))) : Int64).toInt ≤ ((0 : Int64) : Int64).toInt := hc8
                have i8 : ((sum / (Int32.toInt64 m)) - ((1000 : Int64) * (Int32.toInt64 x7))).toInt ≤ (0 : Int) := by have r1 : (0 : Int64).toInt = 0 := rfl; omega
                refine zrn_ok HW 2 ?_
                exact zret_l rfl rfl (kk 0 _ okl Fl (fun e => absurd rfl e))
              · -- pc 179
                have i8 : ¬ ((((sum / (Int32.toInt64 m)) - ((1000 : Int64) * (Int32.toInt64 x7))) : Int64).toInt ≤ ((0 : Int64) : Int64).toInt) := hc8
                have i8 : ¬ (((sum / (Int32.toInt64 m)) - ((1000 : Int64) * (Int32.toInt64 x7))).toInt ≤ (0 : Int)) := by have r1 : (0 : Int64).toInt = 0 := rfl; omega
                refine zrn_ok HW 3 ?_
                exact zret_l rfl rfl (kk _ _ okl Fl (fun _ => y0 (by omega)))
            · -- pc 147
              have i6 : ¬ (x5.toInt > (60 : Int)) := fun e => hc6 (zop_int.mpr e)
              refine zrn_ok HW 4 (t_and2 (nz_L (y := m) (by omega)) (zB_iff.mpr (?_ : G (153, [(8, .inl (.int (Int32.ofNat j))), (6, .inl (.long sum)), (5, .inl (.int m)), (4, .inl (.int b)), (3, .inl (.int l)), (0, .inl (.ref 49)), (1, .inl (.int st)), (2, .inl (.int g))], [.inl (.long (sum / (Int32.toInt64 m)))], hl, 0, 0))))
              refine zrn_ok HW 1 ?_
              exact zret_l rfl rfl (kk _ _ okl Fl (fun _ => y0 (by omega)))
          · -- pc 136
            have i4 : ¬ (¬ m.toInt = (0 : Int)) := fun e => hc4 (zop_int.mpr e)
            refine zrn_ok HW 2 ?_
            exact zret_l rfl rfl (kk 0 _ okl Fl (fun e => absurd rfl e))
        · -- pc 54
          have i3 : ¬ ((Int32.ofNat j).toInt ≥ nT.toInt) := fun e => hc3 (zop_int.mpr e)
          exfalso
          omega
      · refine zrn_ok HW 2 (zB_iff.mpr (?_ : G (48, [(8, .inl (.int (Int32.ofNat j))), (6, .inl (.long sum)), (5, .inl (.int m)), (9, .inl (.int w)), (4, .inl (.int b)), (3, .inl (.int l)), (0, .inl (.ref 49)), (1, .inl (.int st)), (2, .inl (.int g))], [.inl (.ref 49), .inl (.int (Int32.ofNat j))], hl, 0, 0)))
        have g2 : hget hl 49 17 = some (.inl (.int nT)) := (vFr_get Fl hq_q (by decide)).trans gT
        refine g_getf HW rfl okl.1 hq_q rfl g2 ?_
        refine zrn_ok HW 1 (zbr_ex (cd := .ge) (x := (Int32.ofNat j)) (y := nT) (fun hc3 => zB_iff.mpr ?_) (fun hc3 => zB_iff.mpr ?_))
        · -- pc 131
          have i3 : (Int32.ofNat j).toInt ≥ nT.toInt := zop_int.mp hc3
          refine zrn_ok HW 2 (zbr_ex (cd := .ne) (x := m) (y := (0 : Int32)) (fun hc4 => zB_iff.mpr ?_) (fun hc4 => zB_iff.mpr ?_))
          · -- pc 138
            have i4 : ¬ m.toInt = (0 : Int) := zop_int.mp hc4
            refine zrn_ok HW 1 (zB_iff.mpr (?_ : G (139, [(8, .inl (.int (Int32.ofNat j))), (6, .inl (.long sum)), (5, .inl (.int m)), (9, .inl (.int w)), (4, .inl (.int b)), (3, .inl (.int l)), (0, .inl (.ref 49)), (1, .inl (.int st)), (2, .inl (.int g))], [.inl (.ref 49)], hl, 0, 0)))
            obtain ⟨x5, g5, e5, l5, u5⟩ := hi_val (i := 39) okl.1 hq_q (by decide) rfl
            have l5 : (0 : Int) ≤ x5.toInt := l5
            have u5 : x5.toInt ≤ (61 : Int) := u5
            refine g_getf HW rfl okl.1 hq_q rfl g5 ?_
            refine zrn_ok HW 2 (zbr_ex (cd := .gt) (x := x5) (y := (60 : Int32)) (fun hc6 => zB_iff.mpr ?_) (fun hc6 => zB_iff.mpr ?_))
            · -- pc 154
              have i6 : x5.toInt > (60 : Int) := zop_int.mp hc6
              refine zrn_ok HW 4 (t_and2 (nz_L (y := m) (by omega)) (zB_iff.mpr (?_ : G (160, [(8, .inl (.int (Int32.ofNat j))), (6, .inl (.long sum)), (5, .inl (.int m)), (9, .inl (.int w)), (4, .inl (.int b)), (3, .inl (.int l)), (0, .inl (.ref 49)), (1, .inl (.int st)), (2, .inl (.int g))], [.inl (.long (sum / (Int32.toInt64 m)))], hl, 0, 0))))
              refine zrn_ok HW 2 (zB_iff.mpr (?_ : G (164, [(8, .inl (.int (Int32.ofNat j))), (6, .inl (.long sum)), (5, .inl (.int m)), (9, .inl (.int w)), (4, .inl (.int b)), (3, .inl (.int l)), (0, .inl (.ref 49)), (1, .inl (.int st)), (2, .inl (.int g))], [.inl (.ref 49), .inl (.long (1000 : Int64)), .inl (.long (sum / (Int32.toInt64 m)))], hl, 0, 0)))
              obtain ⟨x7, g7, e7, l7, u7⟩ := hi_val (i := 11) okl.1 hq_q (by decide) rfl
              have l7 : (1 : Int) ≤ x7.toInt := l7
              have u7 : x7.toInt ≤ (495 : Int) := u7
              refine g_getf HW rfl okl.1 hq_q rfl g7 ?_
              refine zrn_ok HW 8 (t_and2 (zisI_lcmp ((sum / (Int32.toInt64 m)) - ((1000 : Int64) * (Int32.toInt64 x7))) (0 : Int64)) (zbr_l (cd := .le) (x := ((sum / (Int32.toInt64 m)) - ((1000 : Int64) * (Int32.toInt64 x7)))) (y := (0 : Int64)) (fun hc8 => zB_iff.mpr ?_) (fun hc8 => zB_iff.mpr ?_)))
              · -- pc 184
                have i8 : (((sum / (Int32.toInt64 m)) - ((1000 : Int64) * (Int32.toInt64 x7))) : Int64).toInt ≤ ((0 : Int64) : Int64).toInt := hc8
                have i8 : ((sum / (Int32.toInt64 m)) - ((1000 : Int64) * (Int32.toInt64 x7))).toInt ≤ (0 : Int) := by have r1 : (0 : Int64).toInt = 0 := rfl; omega
                refine zrn_ok HW 2 ?_
                exact zret_l rfl rfl (kk 0 _ okl Fl (fun e => absurd rfl e))
              · -- pc 179
                have i8 : ¬ ((((sum / (Int32.toInt64 m)) - ((1000 : Int64) * (Int32.toInt64 x7))) : Int64).toInt ≤ ((0 : Int64) : Int64).toInt) := hc8
                have i8 : ¬ (((sum / (Int32.toInt64 m)) - ((1000 : Int64) * (Int32.toInt64 x7))).toInt ≤ (0 : Int)) := by have r1 : (0 : Int64).toInt = 0 := rfl; omega
                refine zrn_ok HW 3 ?_
                exact zret_l rfl rfl (kk _ _ okl Fl (fun _ => y0 (by omega)))
            · -- pc 147
              have i6 : ¬ (x5.toInt > (60 : Int)) := fun e => hc6 (zop_int.mpr e)
              refine zrn_ok HW 4 (t_and2 (nz_L (y := m) (by omega)) (zB_iff.mpr (?_ : G (153, [(8, .inl (.int (Int32.ofNat j))), (6, .inl (.long sum)), (5, .inl (.int m)), (9, .inl (.int w)), (4, .inl (.int b)), (3, .inl (.int l)), (0, .inl (.ref 49)), (1, .inl (.int st)), (2, .inl (.int g))], [.inl (.long (sum / (Int32.toInt64 m)))], hl, 0, 0))))
              refine zrn_ok HW 1 ?_
              exact zret_l rfl rfl (kk _ _ okl Fl (fun _ => y0 (by omega)))
          · -- pc 136
            have i4 : ¬ (¬ m.toInt = (0 : Int)) := fun e => hc4 (zop_int.mpr e)
            refine zrn_ok HW 2 ?_
            exact zret_l rfl rfl (kk 0 _ okl Fl (fun e => absurd rfl e))
        · -- pc 54
          have i3 : ¬ ((Int32.ofNat j).toInt ≥ nT.toInt) := fun e => hc3 (zop_int.mpr e)
          exfalso
          omega
    | succ i ih =>
      intro j hj hl m sum okl Fl y0
      have ej := nI_int (k := j) (by omega)
      have ejn : (Int32.ofNat j).toInt.toNat = j := by omega
      refine ⟨?_, fun w => ?_⟩
      · refine zrn_ok HW 2 (zB_iff.mpr (?_ : G (48, [(8, .inl (.int (Int32.ofNat j))), (6, .inl (.long sum)), (5, .inl (.int m)), (4, .inl (.int b)), (3, .inl (.int l)), (0, .inl (.ref 49)), (1, .inl (.int st)), (2, .inl (.int g))], [.inl (.ref 49), .inl (.int (Int32.ofNat j))], hl, 0, 0)))
        have g2 : hget hl 49 17 = some (.inl (.int nT)) := (vFr_get Fl hq_q (by decide)).trans gT
        refine g_getf HW rfl okl.1 hq_q rfl g2 ?_
        refine zrn_ok HW 1 (zbr_ex (cd := .ge) (x := (Int32.ofNat j)) (y := nT) (fun hc3 => zB_iff.mpr ?_) (fun hc3 => zB_iff.mpr ?_))
        · -- pc 131
          have i3 : (Int32.ofNat j).toInt ≥ nT.toInt := zop_int.mp hc3
          exfalso
          omega
        · -- pc 54
          have i3 : ¬ ((Int32.ofNat j).toInt ≥ nT.toInt) := fun e => hc3 (zop_int.mpr e)
          refine zrn_ok HW 6 (zbr_ex (cd := .eq) (x := ((st >>> ((Int32.ofNat j) &&& 31)) &&& (1 : Int32))) (y := (0 : Int32)) (fun hc4 => zB_iff.mpr ?_) (fun hc4 => zB_iff.mpr ?_))
          · -- pc 125
            have i4 : ((st >>> ((Int32.ofNat j) &&& 31)) &&& (1 : Int32)).toInt = (0 : Int) := zop_int.mp hc4
            refine zrn_ok HW 2 (zB_iff.mpr (?_ : G (45, [(8, .inl (.int ((Int32.ofNat j) + (1 : Int32)))), (6, .inl (.long sum)), (5, .inl (.int m)), (4, .inl (.int b)), (3, .inl (.int l)), (0, .inl (.ref 49)), (1, .inl (.int st)), (2, .inl (.int g))], [], hl, 0, 0)))
            have := (ih (j + 1) (by omega) hl m sum okl Fl y0).1
            rw [← nI_add1] at this
            exact this
          · -- pc 63
            have i4 : ¬ (((st >>> ((Int32.ofNat j) &&& 31)) &&& (1 : Int32)).toInt = (0 : Int)) := fun e => hc4 (zop_int.mpr e)
            refine zrn_ok HW 3 (zB_iff.mpr (?_ : G (67, [(8, .inl (.int (Int32.ofNat j))), (6, .inl (.long sum)), (5, .inl (.int m)), (4, .inl (.int b)), (3, .inl (.int l)), (0, .inl (.ref 49)), (1, .inl (.int st)), (2, .inl (.int g))], [.inl (.ref 49), .inl (.int (Int32.ofNat j)), .inl (.ref 49)], hl, 0, 0)))
            have g6 : hget hl 49 37 = some (.inl (.int vF)) := (vFr_get Fl hq_q (by decide)).trans gF
            refine g_getf HW rfl okl.1 hq_q rfl g6 ?_
            refine zrn_ok HW 3 (zB_iff.mpr (?_ : G (73, [(8, .inl (.int (Int32.ofNat j))), (6, .inl (.long sum)), (5, .inl (.int m)), (4, .inl (.int b)), (3, .inl (.int l)), (0, .inl (.ref 49)), (1, .inl (.int st)), (2, .inl (.int g))], [.inl (.int l), .inl (.int (vF + g)), .inl (.int (Int32.ofNat j)), .inl (.ref 49)], hl, 0, 0)))
            refine g_callV (E' := ze_X5_isFree) HW rfl rfl (Nat.le_of_ble_eq_true rfl) (Nat.le_of_ble_eq_true rfl) (Nat.le_of_ble_eq_true rfl) okl.1 rfl hq_q rfl (Nat.le_of_ble_eq_true rfl) (c_isFree5 okl hq_q (okl.2.1.2.1 49 5 hq_q (Or.inl rfl)).1 (t := Int32.ofNat j) (g := (vF + g)) (l := l) (by omega) (by omega) (fun fa => zB_iff.mpr ?_) (fun fn => zB_iff.mpr ?_))
            · show G (76, [(8, .inl (.int (Int32.ofNat j))), (6, .inl (.long sum)), (5, .inl (.int m)), (4, .inl (.int b)), (3, .inl (.int l)), (0, .inl (.ref 49)), (1, .inl (.int st)), (2, .inl (.int g))], [.inl (.int (1 : Int32))], hl, 0, 0)
              refine zrn_ok HW 4 (zB_iff.mpr (?_ : G (83, [(8, .inl (.int (Int32.ofNat j))), (6, .inl (.long sum)), (5, .inl (.int m)), (4, .inl (.int b)), (3, .inl (.int l)), (0, .inl (.ref 49)), (1, .inl (.int st)), (2, .inl (.int g))], [.inl (.int st), .inl (.int (Int32.ofNat j)), .inl (.ref 49)], hl, 0, 0)))
              refine g_callV (E' := ze_X5_wonBy) HW rfl rfl (Nat.le_of_ble_eq_true rfl) (Nat.le_of_ble_eq_true rfl) (Nat.le_of_ble_eq_true rfl) okl.1 rfl hq_q rfl (Nat.le_of_ble_eq_true rfl) (c_wonBy5 okl hq_q (okl.2.1.2.1 49 5 hq_q (Or.inl rfl)).1 (by omega) (fun won wb wl wu => zB_iff.mpr ?_))
              show G (86, [(8, .inl (.int (Int32.ofNat j))), (6, .inl (.long sum)), (5, .inl (.int m)), (4, .inl (.int b)), (3, .inl (.int l)), (0, .inl (.ref 49)), (1, .inl (.int st)), (2, .inl (.int g))], [.inl (.int won)], hl, 0, 0)
              have enb : nbt st j = ((st >>> (Int32.ofNat j &&& 31)) &&& (1 : Int32)).toInt := rfl
              have bit : nbt st j = 1 := by have := nb_01 (x := st) (t := j) (by omega); omega
              have hQ : vQ h st g.toInt := by
                refine Or.inr ⟨j, by omega, bit, ?_⟩
                rw [ejn] at fa
                have fa := fa
                have x67 := vFr_hi Fl (i := j) t67 (by decide)
                have x69 := vFr_hi Fl (i := j) t69 (by decide)
                have x9 := vFr_hi Fl (i := 9) hq_q (by decide)
                rw [show 49 + 18 = 67 from rfl, show 49 + 20 = 69 from rfl, x67, x69, x9] at fa
                rw [eF, eI]
                have ev : Int32.ofInt (vF.toInt + g.toInt) = vF + g := by rw [Int32.ofInt_add, Int32.ofInt_toInt, Int32.ofInt_toInt]
                rw [ev, show vI.toInt - g.toInt = l.toInt from el.symm]
                exact fa
              refine zrn_ok HW 6 (zB_iff.mpr (?_ : G (98, [(5, .inl (.int (m + (1 : Int32)))), (9, .inl (.int won)), (8, .inl (.int (Int32.ofNat j))), (6, .inl (.long sum)), (4, .inl (.int b)), (3, .inl (.int l)), (0, .inl (.ref 49)), (1, .inl (.int st)), (2, .inl (.int g))], [.inl (.ref 49), .inl (.ref 49), .inl (.long (1000 : Int64)), .inl (.long sum)], hl, 0, 0)))
              obtain ⟨x8, g8, e8, l8, u8⟩ := hi_val (i := 36) okl.1 hq_q (by decide) rfl
              have l8 : (0 : Int) ≤ x8.toInt := l8
              have u8 : x8.toInt ≤ (3 : Int) := u8
              refine g_getf HW rfl okl.1 hq_q rfl g8 ?_
              refine zrn_ok HW 1 (zB_iff.mpr (?_ : G (103, [(5, .inl (.int (m + (1 : Int32)))), (9, .inl (.int won)), (8, .inl (.int (Int32.ofNat j))), (6, .inl (.long sum)), (4, .inl (.int b)), (3, .inl (.int l)), (0, .inl (.ref 49)), (1, .inl (.int st)), (2, .inl (.int g))], [.inl (.int won), .inl (.int x8), .inl (.ref 49), .inl (.long (1000 : Int64)), .inl (.long sum)], hl, 0, 0)))
              refine g_callV (E' := ze_X5_liked) HW rfl rfl (Nat.le_of_ble_eq_true rfl) (Nat.le_of_ble_eq_true rfl) (Nat.le_of_ble_eq_true rfl) okl.1 rfl hq_q rfl (Nat.le_of_ble_eq_true rfl) (c_liked okl hq_q ⟨by omega, by omega⟩ (fun k9 => zB_iff.mpr ?_))
              show G (106, [(5, .inl (.int (m + (1 : Int32)))), (9, .inl (.int won)), (8, .inl (.int (Int32.ofNat j))), (6, .inl (.long sum)), (4, .inl (.int b)), (3, .inl (.int l)), (0, .inl (.ref 49)), (1, .inl (.int st)), (2, .inl (.int g))], [.inl (.int k9), .inl (.long (1000 : Int64)), .inl (.long sum)], hl, 0, 0)
              refine zrn_ok HW 11 (zB_iff.mpr (?_ : G (118, [(5, .inl (.int (m + (1 : Int32)))), (9, .inl (.int won)), (8, .inl (.int (Int32.ofNat j))), (6, .inl (.long sum)), (4, .inl (.int b)), (3, .inl (.int l)), (0, .inl (.ref 49)), (1, .inl (.int st)), (2, .inl (.int g))], [.inl (.int (g + (1 : Int32))), .inl (.int (st &&& (won ^^^ (-1 : Int32)))), .inl (.ref 49), .inl (.long ((1000 : Int64) * (Int32.toInt64 k9))), .inl (.long sum)], hl, 0, 0)))
              refine g_callV (E' := ze_X5_valueAt) HW rfl rfl (Nat.le_of_ble_eq_true rfl) (Nat.le_of_ble_eq_true rfl) (Nat.le_of_ble_eq_true rfl) okl.1 rfl hq_q rfl (Nat.le_of_ble_eq_true rfl) (vV hl (st &&& (won ^^^ (-1 : Int32))) _ okl (less_rng hs0 hs1).1 (less_rng hs0 hs1).2 (by have := popc_less (x := st) (w := won) (u := j) (by omega) bit wb; rw [vFr_hi Fl hq_q (by decide)]; omega) (fun r10 h10 ok10 F10 z10 => zB_iff.mpr ?_))
              show G (121, [(5, .inl (.int (m + (1 : Int32)))), (9, .inl (.int won)), (8, .inl (.int (Int32.ofNat j))), (6, .inl (.long sum)), (4, .inl (.int b)), (3, .inl (.int l)), (0, .inl (.ref 49)), (1, .inl (.int st)), (2, .inl (.int g))], [.inl (.long r10), .inl (.long ((1000 : Int64) * (Int32.toInt64 k9))), .inl (.long sum)], h10, 0, 0)
              have F10 : vFr T h h10 := fun p i e => (F10 p i e).trans (Fl p i e)
              refine zrn_ok HW 5 (zB_iff.mpr (?_ : G (45, [(8, .inl (.int ((Int32.ofNat j) + (1 : Int32)))), (6, .inl (.long (sum + (((1000 : Int64) * (Int32.toInt64 k9)) + r10)))), (5, .inl (.int (m + (1 : Int32)))), (9, .inl (.int won)), (4, .inl (.int b)), (3, .inl (.int l)), (0, .inl (.ref 49)), (1, .inl (.int st)), (2, .inl (.int g))], [], h10, 0, 0)))
              have := (ih (j + 1) (by omega) h10 (m + (1 : Int32)) (sum + (((1000 : Int64) * (Int32.toInt64 k9)) + r10)) ok10 F10 (fun _ => hQ)).2 won
              rw [← nI_add1] at this
              exact this
            · show G (76, [(8, .inl (.int (Int32.ofNat j))), (6, .inl (.long sum)), (5, .inl (.int m)), (4, .inl (.int b)), (3, .inl (.int l)), (0, .inl (.ref 49)), (1, .inl (.int st)), (2, .inl (.int g))], [.inl (.int (0 : Int32))], hl, 0, 0)
              refine zrn_ok HW 3 (zB_iff.mpr (?_ : G (45, [(8, .inl (.int ((Int32.ofNat j) + (1 : Int32)))), (6, .inl (.long sum)), (5, .inl (.int m)), (4, .inl (.int b)), (3, .inl (.int l)), (0, .inl (.ref 49)), (1, .inl (.int st)), (2, .inl (.int g))], [], hl, 0, 0)))
              have := (ih (j + 1) (by omega) hl m sum okl Fl y0).1
              rw [← nI_add1] at this
              exact this
      · refine zrn_ok HW 2 (zB_iff.mpr (?_ : G (48, [(8, .inl (.int (Int32.ofNat j))), (6, .inl (.long sum)), (5, .inl (.int m)), (9, .inl (.int w)), (4, .inl (.int b)), (3, .inl (.int l)), (0, .inl (.ref 49)), (1, .inl (.int st)), (2, .inl (.int g))], [.inl (.ref 49), .inl (.int (Int32.ofNat j))], hl, 0, 0)))
        have g2 : hget hl 49 17 = some (.inl (.int nT)) := (vFr_get Fl hq_q (by decide)).trans gT
        refine g_getf HW rfl okl.1 hq_q rfl g2 ?_
        refine zrn_ok HW 1 (zbr_ex (cd := .ge) (x := (Int32.ofNat j)) (y := nT) (fun hc3 => zB_iff.mpr ?_) (fun hc3 => zB_iff.mpr ?_))
        · -- pc 131
          have i3 : (Int32.ofNat j).toInt ≥ nT.toInt := zop_int.mp hc3
          exfalso
          omega
        · -- pc 54
          have i3 : ¬ ((Int32.ofNat j).toInt ≥ nT.toInt) := fun e => hc3 (zop_int.mpr e)
          refine zrn_ok HW 6 (zbr_ex (cd := .eq) (x := ((st >>> ((Int32.ofNat j) &&& 31)) &&& (1 : Int32))) (y := (0 : Int32)) (fun hc4 => zB_iff.mpr ?_) (fun hc4 => zB_iff.mpr ?_))
          · -- pc 125
            have i4 : ((st >>> ((Int32.ofNat j) &&& 31)) &&& (1 : Int32)).toInt = (0 : Int) := zop_int.mp hc4
            refine zrn_ok HW 2 (zB_iff.mpr (?_ : G (45, [(8, .inl (.int ((Int32.ofNat j) + (1 : Int32)))), (6, .inl (.long sum)), (5, .inl (.int m)), (9, .inl (.int w)), (4, .inl (.int b)), (3, .inl (.int l)), (0, .inl (.ref 49)), (1, .inl (.int st)), (2, .inl (.int g))], [], hl, 0, 0)))
            have := (ih (j + 1) (by omega) hl m sum okl Fl y0).2 w
            rw [← nI_add1] at this
            exact this
          · -- pc 63
            have i4 : ¬ (((st >>> ((Int32.ofNat j) &&& 31)) &&& (1 : Int32)).toInt = (0 : Int)) := fun e => hc4 (zop_int.mpr e)
            refine zrn_ok HW 3 (zB_iff.mpr (?_ : G (67, [(8, .inl (.int (Int32.ofNat j))), (6, .inl (.long sum)), (5, .inl (.int m)), (9, .inl (.int w)), (4, .inl (.int b)), (3, .inl (.int l)), (0, .inl (.ref 49)), (1, .inl (.int st)), (2, .inl (.int g))], [.inl (.ref 49), .inl (.int (Int32.ofNat j)), .inl (.ref 49)], hl, 0, 0)))
            have g6 : hget hl 49 37 = some (.inl (.int vF)) := (vFr_get Fl hq_q (by decide)).trans gF
            refine g_getf HW rfl okl.1 hq_q rfl g6 ?_
            refine zrn_ok HW 3 (zB_iff.mpr (?_ : G (73, [(8, .inl (.int (Int32.ofNat j))), (6, .inl (.long sum)), (5, .inl (.int m)), (9, .inl (.int w)), (4, .inl (.int b)), (3, .inl (.int l)), (0, .inl (.ref 49)), (1, .inl (.int st)), (2, .inl (.int g))], [.inl (.int l), .inl (.int (vF + g)), .inl (.int (Int32.ofNat j)), .inl (.ref 49)], hl, 0, 0)))
            refine g_callV (E' := ze_X5_isFree) HW rfl rfl (Nat.le_of_ble_eq_true rfl) (Nat.le_of_ble_eq_true rfl) (Nat.le_of_ble_eq_true rfl) okl.1 rfl hq_q rfl (Nat.le_of_ble_eq_true rfl) (c_isFree5 okl hq_q (okl.2.1.2.1 49 5 hq_q (Or.inl rfl)).1 (t := Int32.ofNat j) (g := (vF + g)) (l := l) (by omega) (by omega) (fun fa => zB_iff.mpr ?_) (fun fn => zB_iff.mpr ?_))
            · show G (76, [(8, .inl (.int (Int32.ofNat j))), (6, .inl (.long sum)), (5, .inl (.int m)), (9, .inl (.int w)), (4, .inl (.int b)), (3, .inl (.int l)), (0, .inl (.ref 49)), (1, .inl (.int st)), (2, .inl (.int g))], [.inl (.int (1 : Int32))], hl, 0, 0)
              refine zrn_ok HW 4 (zB_iff.mpr (?_ : G (83, [(8, .inl (.int (Int32.ofNat j))), (6, .inl (.long sum)), (5, .inl (.int m)), (9, .inl (.int w)), (4, .inl (.int b)), (3, .inl (.int l)), (0, .inl (.ref 49)), (1, .inl (.int st)), (2, .inl (.int g))], [.inl (.int st), .inl (.int (Int32.ofNat j)), .inl (.ref 49)], hl, 0, 0)))
              refine g_callV (E' := ze_X5_wonBy) HW rfl rfl (Nat.le_of_ble_eq_true rfl) (Nat.le_of_ble_eq_true rfl) (Nat.le_of_ble_eq_true rfl) okl.1 rfl hq_q rfl (Nat.le_of_ble_eq_true rfl) (c_wonBy5 okl hq_q (okl.2.1.2.1 49 5 hq_q (Or.inl rfl)).1 (by omega) (fun won wb wl wu => zB_iff.mpr ?_))
              show G (86, [(8, .inl (.int (Int32.ofNat j))), (6, .inl (.long sum)), (5, .inl (.int m)), (9, .inl (.int w)), (4, .inl (.int b)), (3, .inl (.int l)), (0, .inl (.ref 49)), (1, .inl (.int st)), (2, .inl (.int g))], [.inl (.int won)], hl, 0, 0)
              have enb : nbt st j = ((st >>> (Int32.ofNat j &&& 31)) &&& (1 : Int32)).toInt := rfl
              have bit : nbt st j = 1 := by have := nb_01 (x := st) (t := j) (by omega); omega
              have hQ : vQ h st g.toInt := by
                refine Or.inr ⟨j, by omega, bit, ?_⟩
                rw [ejn] at fa
                have fa := fa
                have x67 := vFr_hi Fl (i := j) t67 (by decide)
                have x69 := vFr_hi Fl (i := j) t69 (by decide)
                have x9 := vFr_hi Fl (i := 9) hq_q (by decide)
                rw [show 49 + 18 = 67 from rfl, show 49 + 20 = 69 from rfl, x67, x69, x9] at fa
                rw [eF, eI]
                have ev : Int32.ofInt (vF.toInt + g.toInt) = vF + g := by rw [Int32.ofInt_add, Int32.ofInt_toInt, Int32.ofInt_toInt]
                rw [ev, show vI.toInt - g.toInt = l.toInt from el.symm]
                exact fa
              refine zrn_ok HW 6 (zB_iff.mpr (?_ : G (98, [(5, .inl (.int (m + (1 : Int32)))), (9, .inl (.int won)), (8, .inl (.int (Int32.ofNat j))), (6, .inl (.long sum)), (4, .inl (.int b)), (3, .inl (.int l)), (0, .inl (.ref 49)), (1, .inl (.int st)), (2, .inl (.int g))], [.inl (.ref 49), .inl (.ref 49), .inl (.long (1000 : Int64)), .inl (.long sum)], hl, 0, 0)))
              obtain ⟨x8, g8, e8, l8, u8⟩ := hi_val (i := 36) okl.1 hq_q (by decide) rfl
              have l8 : (0 : Int) ≤ x8.toInt := l8
              have u8 : x8.toInt ≤ (3 : Int) := u8
              refine g_getf HW rfl okl.1 hq_q rfl g8 ?_
              refine zrn_ok HW 1 (zB_iff.mpr (?_ : G (103, [(5, .inl (.int (m + (1 : Int32)))), (9, .inl (.int won)), (8, .inl (.int (Int32.ofNat j))), (6, .inl (.long sum)), (4, .inl (.int b)), (3, .inl (.int l)), (0, .inl (.ref 49)), (1, .inl (.int st)), (2, .inl (.int g))], [.inl (.int won), .inl (.int x8), .inl (.ref 49), .inl (.long (1000 : Int64)), .inl (.long sum)], hl, 0, 0)))
              refine g_callV (E' := ze_X5_liked) HW rfl rfl (Nat.le_of_ble_eq_true rfl) (Nat.le_of_ble_eq_true rfl) (Nat.le_of_ble_eq_true rfl) okl.1 rfl hq_q rfl (Nat.le_of_ble_eq_true rfl) (c_liked okl hq_q ⟨by omega, by omega⟩ (fun k9 => zB_iff.mpr ?_))
              show G (106, [(5, .inl (.int (m + (1 : Int32)))), (9, .inl (.int won)), (8, .inl (.int (Int32.ofNat j))), (6, .inl (.long sum)), (4, .inl (.int b)), (3, .inl (.int l)), (0, .inl (.ref 49)), (1, .inl (.int st)), (2, .inl (.int g))], [.inl (.int k9), .inl (.long (1000 : Int64)), .inl (.long sum)], hl, 0, 0)
              refine zrn_ok HW 11 (zB_iff.mpr (?_ : G (118, [(5, .inl (.int (m + (1 : Int32)))), (9, .inl (.int won)), (8, .inl (.int (Int32.ofNat j))), (6, .inl (.long sum)), (4, .inl (.int b)), (3, .inl (.int l)), (0, .inl (.ref 49)), (1, .inl (.int st)), (2, .inl (.int g))], [.inl (.int (g + (1 : Int32))), .inl (.int (st &&& (won ^^^ (-1 : Int32)))), .inl (.ref 49), .inl (.long ((1000 : Int64) * (Int32.toInt64 k9))), .inl (.long sum)], hl, 0, 0)))
              refine g_callV (E' := ze_X5_valueAt) HW rfl rfl (Nat.le_of_ble_eq_true rfl) (Nat.le_of_ble_eq_true rfl) (Nat.le_of_ble_eq_true rfl) okl.1 rfl hq_q rfl (Nat.le_of_ble_eq_true rfl) (vV hl (st &&& (won ^^^ (-1 : Int32))) _ okl (less_rng hs0 hs1).1 (less_rng hs0 hs1).2 (by have := popc_less (x := st) (w := won) (u := j) (by omega) bit wb; rw [vFr_hi Fl hq_q (by decide)]; omega) (fun r10 h10 ok10 F10 z10 => zB_iff.mpr ?_))
              show G (121, [(5, .inl (.int (m + (1 : Int32)))), (9, .inl (.int won)), (8, .inl (.int (Int32.ofNat j))), (6, .inl (.long sum)), (4, .inl (.int b)), (3, .inl (.int l)), (0, .inl (.ref 49)), (1, .inl (.int st)), (2, .inl (.int g))], [.inl (.long r10), .inl (.long ((1000 : Int64) * (Int32.toInt64 k9))), .inl (.long sum)], h10, 0, 0)
              have F10 : vFr T h h10 := fun p i e => (F10 p i e).trans (Fl p i e)
              refine zrn_ok HW 5 (zB_iff.mpr (?_ : G (45, [(8, .inl (.int ((Int32.ofNat j) + (1 : Int32)))), (6, .inl (.long (sum + (((1000 : Int64) * (Int32.toInt64 k9)) + r10)))), (5, .inl (.int (m + (1 : Int32)))), (9, .inl (.int won)), (4, .inl (.int b)), (3, .inl (.int l)), (0, .inl (.ref 49)), (1, .inl (.int st)), (2, .inl (.int g))], [], h10, 0, 0)))
              have := (ih (j + 1) (by omega) h10 (m + (1 : Int32)) (sum + (((1000 : Int64) * (Int32.toInt64 k9)) + r10)) ok10 F10 (fun _ => hQ)).2 won
              rw [← nI_add1] at this
              exact this
            · show G (76, [(8, .inl (.int (Int32.ofNat j))), (6, .inl (.long sum)), (5, .inl (.int m)), (9, .inl (.int w)), (4, .inl (.int b)), (3, .inl (.int l)), (0, .inl (.ref 49)), (1, .inl (.int st)), (2, .inl (.int g))], [.inl (.int (0 : Int32))], hl, 0, 0)
              refine zrn_ok HW 3 (zB_iff.mpr (?_ : G (45, [(8, .inl (.int ((Int32.ofNat j) + (1 : Int32)))), (6, .inl (.long sum)), (5, .inl (.int m)), (9, .inl (.int w)), (4, .inl (.int b)), (3, .inl (.int l)), (0, .inl (.ref 49)), (1, .inl (.int st)), (2, .inl (.int g))], [], hl, 0, 0)))
              have := (ih (j + 1) (by omega) hl m sum okl Fl y0).2 w
              rw [← nI_add1] at this
              exact this
  refine zrn_ok HW 1 (zB_iff.mpr (?_ : G (1, [(0, .inl (.ref 49)), (1, .inl (.int st)), (2, .inl (.int g))], [.inl (.ref 49)], h, 0, 0)))
  refine g_getf HW rfl ok.1 hq_q rfl gI ?_
  refine zrn_ok HW 5 (zB_iff.mpr (?_ : G (9, [(3, .inl (.int (vI - g))), (0, .inl (.ref 49)), (1, .inl (.int st)), (2, .inl (.int g))], [.inl (.int st), .inl (.int (vI - g))], h, 0, 0)))
  refine g_callS (b := 0) (E' := ze_X5_bits) HW (Or.inl rfl) rfl rfl (Nat.le_of_ble_eq_true rfl) (Nat.le_of_ble_eq_true rfl) (Nat.le_of_ble_eq_true rfl) (Nat.le_of_ble_eq_true rfl) (c_bits (fun p3 ep3 => zB_iff.mpr ?_))
  show G (12, [(3, .inl (.int (vI - g))), (0, .inl (.ref 49)), (1, .inl (.int st)), (2, .inl (.int g))], [.inl (.int p3), .inl (.int (vI - g))], h, 0, 0)
  have eL : (vI - g).toInt = vI.toInt - g.toInt := t_sub (by omega) (by omega)
  have eB : ((vI - g) - p3).toInt = (vI - g).toInt - p3.toInt := t_sub (by omega) (by omega)
  refine zrn_ok HW 6 (zbr_ex (cd := .le) (x := ((vI - g) - p3)) (y := (0 : Int32)) (fun hc4 => zB_iff.mpr ?_) (fun hc4 => zB_iff.mpr ?_))
  · -- pc 39
    have i4 : ((vI - g) - p3).toInt ≤ (0 : Int) := zop_int.mp hc4
    refine zrn_ok HW 4 (zB_iff.mpr (?_ : G (45, [(8, .inl (.int (0 : Int32))), (6, .inl (.long (0 : Int64))), (5, .inl (.int ((vI - g) - p3))), (4, .inl (.int ((vI - g) - p3))), (3, .inl (.int (vI - g))), (0, .inl (.ref 49)), (1, .inl (.int st)), (2, .inl (.int g))], [], h, 0, 0)))
    exact (loop _ _ eL nT.toInt.toNat 0 (by omega) _ _ _ ok (fun _ _ _ => rfl) (fun hm => Or.inl (by omega))).1
  · -- pc 24
    have i4 : ¬ (((vI - g) - p3).toInt ≤ (0 : Int)) := fun e => hc4 (zop_int.mpr e)
    refine zrn_ok HW 7 (zB_iff.mpr (?_ : G (32, [(5, .inl (.int ((vI - g) - p3))), (4, .inl (.int ((vI - g) - p3))), (3, .inl (.int (vI - g))), (0, .inl (.ref 49)), (1, .inl (.int st)), (2, .inl (.int g))], [.inl (.int (g + (1 : Int32))), .inl (.int st), .inl (.ref 49), .inl (.long (Int32.toInt64 ((vI - g) - p3)))], h, 0, 0)))
    refine g_callV (E' := ze_X5_valueAt) HW rfl rfl (Nat.le_of_ble_eq_true rfl) (Nat.le_of_ble_eq_true rfl) (Nat.le_of_ble_eq_true rfl) ok.1 rfl hq_q rfl (Nat.le_of_ble_eq_true rfl) (vV h st _ ok hs0 hs1 (by omega) (fun r5 h5 ok5 F5 z5 => zB_iff.mpr ?_))
    show G (35, [(5, .inl (.int ((vI - g) - p3))), (4, .inl (.int ((vI - g) - p3))), (3, .inl (.int (vI - g))), (0, .inl (.ref 49)), (1, .inl (.int st)), (2, .inl (.int g))], [.inl (.long r5), .inl (.long (Int32.toInt64 ((vI - g) - p3)))], h5, 0, 0)
    refine zrn_ok HW 5 (zB_iff.mpr (?_ : G (45, [(8, .inl (.int (0 : Int32))), (6, .inl (.long ((Int32.toInt64 ((vI - g) - p3)) * r5))), (5, .inl (.int ((vI - g) - p3))), (4, .inl (.int ((vI - g) - p3))), (3, .inl (.int (vI - g))), (0, .inl (.ref 49)), (1, .inl (.int st)), (2, .inl (.int g))], [], h5, 0, 0)))
    exact (loop _ _ eL nT.toInt.toNat 0 (by omega) _ _ _ ok5 F5 (fun hm => Or.inl (by omega))).1
theorem c_valueAt {N : Nat} {scr : List zV} {n m : Int} {br : Option Int} {T : List Nat} : ∀ (k d : Nat) (g : Int32), 0 ≤ g.toInt → g.toInt ≤ 61 → 60 - g.toInt < (k : Int) → 2 * k + 4 ≤ d → vCon (n, m, br, true) N T scr d g := by
  intro k
  induction k with
  | zero =>
    intro d g h0 h1 hk hd h st post ok hs0 hs1 hp kk
    exfalso
    obtain ⟨vI, gI, eI, lI, uI⟩ := hi_val (i := 38) ok.1 ok.2.1.1.2.2.1 (by decide) rfl
    have uI : vI.toInt ≤ (60 : Int) := uI
    have pb := popc_b (x := st) (k := 8) (by omega)
    omega
  | succ k ih =>
    intro d g h0 h1 hk hd h st post ok hs0 hs1 hp kk
    have hq_q := ok.2.1.1.2.2.1
    have hst := p_stab (n, m, br, true)
    obtain ⟨vI, gI, eI, lI, uI⟩ := hi_val (i := 38) ok.1 hq_q (by decide) rfl
    have uI : vI.toInt ≤ (60 : Int) := uI
    have pb := popc_b (x := st) (k := 8) (by omega)
    obtain ⟨d, rfl⟩ : ∃ d', d = d' + 4 := ⟨d - 4, by omega⟩
    obtain ⟨w, gw, tw⟩ : pRef T h 49 35 41 := ok.2.1.2.2.2.2.2.2.1 rfl
    obtain ⟨vr, gr, sr⟩ := hOK_get (i := g.toInt.toNat) ok.1 tw (by show _ < 62; omega)
    obtain ⟨rw, rfl, trw⟩ : ∃ q : Nat, vr = .inl (.ref q) ∧ T[q]? = some 42 := sr
    obtain ⟨vx, gx, sx⟩ := hOK_get (i := st.toInt.toNat) ok.1 trw (by show _ < 256; omega)
    obtain ⟨x, rfl⟩ : ∃ x : Int64, vx = .inl (.long x) := sx
    have n42 : ∀ p : Nat, T[p]? ≠ some 42 → p ≠ rw := fun p hp e => by
      subst e
      exact hp trw
    have hV : ∀ g1 : Int32, g1.toInt = g.toInt + 1 → vCon (n, m, br, true) N T scr (d + 2) g1 := fun g1 e => ih (d + 2) g1 (by omega) (by omega) (by omega) (by omega)
    refine zD_intro (E := ze_X5_valueAt) rfl rfl (fun G HW => ?_)
    refine zrn_ok HW 1 (zB_iff.mpr (?_ : G (1, [(0, .inl (.ref 49)), (1, .inl (.int st)), (2, .inl (.int g))], [.inl (.ref 49)], h, 0, 0)))
    have o2 : hget h 49 35 = some (.inl (.ref w)) := gw
    refine g_getf HW rfl ok.1 hq_q rfl o2 ?_
    refine zrn_ok HW 1 (zB_iff.mpr (?_ : G (5, [(0, .inl (.ref 49)), (1, .inl (.int st)), (2, .inl (.int g))], [.inl (.int g), .inl (.ref w)], h, 0, 0)))
    have o3 : hget h w g.toInt.toNat = some (.inl (.ref rw)) := gr
    refine g_aald HW rfl ok.1 tw ⟨by decide, by decide⟩ (by omega) o3 ?_
    refine zrn_ok HW 1 (zB_iff.mpr (?_ : G (7, [(0, .inl (.ref 49)), (1, .inl (.int st)), (2, .inl (.int g))], [.inl (.int st), .inl (.ref rw)], h, 0, 0)))
    obtain ⟨v4, g4, s4⟩ := hOK_get (i := (st).toInt.toNat) ok.1 trw (by show _ < 256; omega)
    obtain ⟨x4, rfl⟩ : ∃ x : Int64, v4 = .inl (.long x) := s4
    refine g_lald HW rfl ok.1 trw rfl (by omega) g4 ?_
    refine zrn_ok HW 3 (t_and2 (zisI_lcmp x4 (-1 : Int64)) (zbr_l (cd := .ne) (x := x4) (y := (-1 : Int64)) (fun hc5 => zB_iff.mpr ?_) (fun hc5 => zB_iff.mpr ?_)))
    · -- pc 41
      have i5 : ¬ (x4 : Int64).toInt = ((-1 : Int64) : Int64).toInt := hc5
      have i5 : ¬ x4.toInt = (-1 : Int) := by have r1 : (-1 : Int64).toInt = -1 := rfl; omega
      refine zrn_ok HW 1 (zB_iff.mpr (?_ : G (42, [(0, .inl (.ref 49)), (1, .inl (.int st)), (2, .inl (.int g))], [.inl (.ref 49)], h, 0, 0)))
      have o7 : hget h 49 35 = some (.inl (.ref w)) := gw
      refine g_getf HW rfl ok.1 hq_q rfl o7 ?_
      refine zrn_ok HW 1 (zB_iff.mpr (?_ : G (46, [(0, .inl (.ref 49)), (1, .inl (.int st)), (2, .inl (.int g))], [.inl (.int g), .inl (.ref w)], h, 0, 0)))
      have o8 : hget h w g.toInt.toNat = some (.inl (.ref rw)) := gr
      refine g_aald HW rfl ok.1 tw ⟨by decide, by decide⟩ (by omega) o8 ?_
      refine zrn_ok HW 1 (zB_iff.mpr (?_ : G (48, [(0, .inl (.ref 49)), (1, .inl (.int st)), (2, .inl (.int g))], [.inl (.int st), .inl (.ref rw)], h, 0, 0)))
      obtain ⟨v9, g9, s9⟩ := hOK_get (i := (st).toInt.toNat) ok.1 trw (by show _ < 256; omega)
      obtain ⟨x9, rfl⟩ : ∃ x : Int64, v9 = .inl (.long x) := s9
      refine g_lald HW rfl ok.1 trw rfl (by omega) g9 ?_
      refine zrn_ok HW 1 ?_
      refine zret_l rfl rfl (kk x9 h ok (fun _ _ _ => rfl) (fun hz _ => ?_))
      obtain ⟨w2, r2, z1, z2, z3⟩ := hz
      rw [gw] at z1
      cases z1
      rw [gr] at z2
      cases z2
      have z4 := gx.symm.trans z3
      have z5 : x = -1 := by cases z4; rfl
      have z6 : x.toInt = -1 := by rw [z5]; rfl
      have ex := g4.symm.trans gx
      have ex : x4 = x := by cases ex; rfl
      rw [ex] at i5
      omega
    · -- pc 15
      have i5 : ¬ (¬ (x4 : Int64).toInt = ((-1 : Int64) : Int64).toInt) := hc5
      have i5 : ¬ (¬ x4.toInt = (-1 : Int)) := by have r1 : (-1 : Int64).toInt = -1 := rfl; omega
      refine zrn_ok HW 1 (zB_iff.mpr (?_ : G (16, [(0, .inl (.ref 49)), (1, .inl (.int st)), (2, .inl (.int g))], [.inl (.ref 49)], h, 0, 0)))
      have o11 : hget h 49 35 = some (.inl (.ref w)) := gw
      refine g_getf HW rfl ok.1 hq_q rfl o11 ?_
      refine zrn_ok HW 1 (zB_iff.mpr (?_ : G (20, [(0, .inl (.ref 49)), (1, .inl (.int st)), (2, .inl (.int g))], [.inl (.int g), .inl (.ref w)], h, 0, 0)))
      have o12 : hget h w g.toInt.toNat = some (.inl (.ref rw)) := gr
      refine g_aald HW rfl ok.1 tw ⟨by decide, by decide⟩ (by omega) o12 ?_
      refine zrn_ok HW 3 (zB_iff.mpr (?_ : G (24, [(0, .inl (.ref 49)), (1, .inl (.int st)), (2, .inl (.int g))], [.inl (.ref 49), .inl (.int g), .inl (.int st), .inl (.ref rw)], h, 0, 0)))
      obtain ⟨x13, g13, e13, l13, u13⟩ := hi_val (i := 39) ok.1 hq_q (by decide) rfl
      have l13 : (0 : Int) ≤ x13.toInt := l13
      have u13 : x13.toInt ≤ (61 : Int) := u13
      refine g_getf HW rfl ok.1 hq_q rfl g13 ?_
      refine zrn_ok HW 1 (zbr_ex (cd := .ne) (x := g) (y := x13) (fun hc14 => zB_iff.mpr ?_) (fun hc14 => zB_iff.mpr ?_))
      · -- pc 34
        have i14 : ¬ g.toInt = x13.toInt := zop_int.mp hc14
        refine zrn_ok HW 3 (zB_iff.mpr (?_ : G (37, [(0, .inl (.ref 49)), (1, .inl (.int st)), (2, .inl (.int g))], [.inl (.int g), .inl (.int st), .inl (.ref 49), .inl (.int st), .inl (.ref rw)], h, 0, 0)))
        refine g_callV (E' := ze_X5_foundAt) HW rfl rfl (Nat.le_of_ble_eq_true rfl) (Nat.le_of_ble_eq_true rfl) (Nat.le_of_ble_eq_true rfl) ok.1 rfl hq_q rfl (Nat.le_of_ble_eq_true rfl) (c_foundAt hV ok hs0 hs1 h0 hp (fun r hf okf Ff zf => zB_iff.mpr ?_))
        show G (40, [(0, .inl (.ref 49)), (1, .inl (.int st)), (2, .inl (.int g))], [.inl (.long r), .inl (.int st), .inl (.ref rw)], hf, 0, 0)
        have ok15 : wOK (zPhi (n, m, br, true)) N T (hput hf rw (st).toInt.toNat (.inl (.long r))) := wOK_put hst okf trw rfl ⟨_, rfl⟩
        refine g_last HW rfl okf.1 trw rfl (by omega) (by show _ < (256 : Int); omega) ?_
        refine zrn_ok HW 1 (zB_iff.mpr (?_ : G (42, [(0, .inl (.ref 49)), (1, .inl (.int st)), (2, .inl (.int g))], [.inl (.ref 49)], (hput hf rw (st).toInt.toNat (.inl (.long r))), 0, 0)))
        have o17 : hget (hput hf rw (st).toInt.toNat (.inl (.long r))) 49 35 = some (.inl (.ref w)) := (hget_put_ne (Or.inl (n42 _ (by rw [hq_q]; decide)))).trans ((Ff 49 35 (by rw [hq_q]; decide)).trans gw)
        refine g_getf HW rfl ok15.1 hq_q rfl o17 ?_
        refine zrn_ok HW 1 (zB_iff.mpr (?_ : G (46, [(0, .inl (.ref 49)), (1, .inl (.int st)), (2, .inl (.int g))], [.inl (.int g), .inl (.ref w)], (hput hf rw (st).toInt.toNat (.inl (.long r))), 0, 0)))
        have o18 : hget (hput hf rw (st).toInt.toNat (.inl (.long r))) w g.toInt.toNat = some (.inl (.ref rw)) := (hget_put_ne (Or.inl (n42 _ (by rw [tw]; decide)))).trans ((Ff w g.toInt.toNat (by rw [tw]; decide)).trans gr)
        refine g_aald HW rfl ok15.1 tw ⟨by decide, by decide⟩ (by omega) o18 ?_
        refine zrn_ok HW 1 (zB_iff.mpr (?_ : G (48, [(0, .inl (.ref 49)), (1, .inl (.int st)), (2, .inl (.int g))], [.inl (.int st), .inl (.ref rw)], (hput hf rw (st).toInt.toNat (.inl (.long r))), 0, 0)))
        obtain ⟨v19, g19, s19⟩ := hOK_get (i := (st).toInt.toNat) ok15.1 trw (by show _ < 256; omega)
        obtain ⟨x19, rfl⟩ : ∃ x : Int64, v19 = .inl (.long x) := s19
        refine g_lald HW rfl ok15.1 trw rfl (by omega) g19 ?_
        refine zrn_ok HW 1 ?_
        obtain ⟨vy, gy, -⟩ := hOK_get (i := st.toInt.toNat) okf.1 trw (by show _ < 256; omega)
        have ex := g19.symm.trans (hget_put gy)
        have ex : x19 = r := by cases ex; rfl
        exact zret_l rfl rfl (kk _ _ ok15 (fun p i hp => (hget_put_ne (Or.inl (n42 p hp))).trans (Ff p i hp)) (fun _ hne => zf (by rw [← ex]; exact hne)))
      · -- pc 30
        have i14 : ¬ (¬ g.toInt = x13.toInt) := fun e => hc14 (zop_int.mpr e)
        refine zrn_ok HW 2 (zB_iff.mpr (?_ : G (40, [(0, .inl (.ref 49)), (1, .inl (.int st)), (2, .inl (.int g))], [.inl (.long (0 : Int64)), .inl (.int st), .inl (.ref rw)], h, 0, 0)))
        have ok20 : wOK (zPhi (n, m, br, true)) N T (hput h rw (st).toInt.toNat (.inl (.long (0 : Int64)))) := wOK_put hst ok trw rfl ⟨_, rfl⟩
        refine g_last HW rfl ok.1 trw rfl (by omega) (by show _ < (256 : Int); omega) ?_
        refine zrn_ok HW 1 (zB_iff.mpr (?_ : G (42, [(0, .inl (.ref 49)), (1, .inl (.int st)), (2, .inl (.int g))], [.inl (.ref 49)], (hput h rw (st).toInt.toNat (.inl (.long (0 : Int64)))), 0, 0)))
        have o22 : hget (hput h rw (st).toInt.toNat (.inl (.long (0 : Int64)))) 49 35 = some (.inl (.ref w)) := (hget_put_ne (Or.inl (n42 _ (by rw [hq_q]; decide)))).trans (gw)
        refine g_getf HW rfl ok20.1 hq_q rfl o22 ?_
        refine zrn_ok HW 1 (zB_iff.mpr (?_ : G (46, [(0, .inl (.ref 49)), (1, .inl (.int st)), (2, .inl (.int g))], [.inl (.int g), .inl (.ref w)], (hput h rw (st).toInt.toNat (.inl (.long (0 : Int64)))), 0, 0)))
        have o23 : hget (hput h rw (st).toInt.toNat (.inl (.long (0 : Int64)))) w g.toInt.toNat = some (.inl (.ref rw)) := (hget_put_ne (Or.inl (n42 _ (by rw [tw]; decide)))).trans (gr)
        refine g_aald HW rfl ok20.1 tw ⟨by decide, by decide⟩ (by omega) o23 ?_
        refine zrn_ok HW 1 (zB_iff.mpr (?_ : G (48, [(0, .inl (.ref 49)), (1, .inl (.int st)), (2, .inl (.int g))], [.inl (.int st), .inl (.ref rw)], (hput h rw (st).toInt.toNat (.inl (.long (0 : Int64)))), 0, 0)))
        obtain ⟨v24, g24, s24⟩ := hOK_get (i := (st).toInt.toNat) ok20.1 trw (by show _ < 256; omega)
        obtain ⟨x24, rfl⟩ : ∃ x : Int64, v24 = .inl (.long x) := s24
        refine g_lald HW rfl ok20.1 trw rfl (by omega) g24 ?_
        refine zrn_ok HW 1 ?_
        have ex := g24.symm.trans (hget_put gx)
        have ex : x24 = (0 : Int64) := by cases ex; rfl
        exact zret_l rfl rfl (kk _ _ ok20 (fun p i hp => (hget_put_ne (Or.inl (n42 p hp))).trans rfl) (fun _ hne => absurd (by rw [ex]; rfl) hne))
