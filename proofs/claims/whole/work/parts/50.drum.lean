theorem c_thingOn5 {scr : List zV} {d : Nat} {T : List Nat} {h : zH} {q : Nat} {s : Int32} {post : Option zV → zH → Bool} (hok : hOK zty T h) (hq_q : T[q]? = some 5) (lay : pLay T h q) (k1 : ∀ t : Nat, (t : Int) < hi h q 17 → hi h (q + 19) t = s.toInt → (∀ u : Nat, u < t → hi h (q + 19) u ≠ s.toInt) → post (some (.inl (.int (Int32.ofNat t)))) h = true) (k0 : (∀ t : Nat, (t : Int) < hi h q 17 → hi h (q + 19) t ≠ s.toInt) → post (some (.inl (.int (-1)))) h = true) : zD zprog scr (d + 1) 238 [.inl (.ref q), .inl (.int s)] h post = true := by
  refine zD_intro (E := ze_X5_thingOn) rfl rfl (fun G HW => ?_)
  obtain ⟨nT, gT, eT, lT, uT⟩ := hi_val (i := 17) hok hq_q (by decide) rfl
  have lT : (0 : Int) ≤ nT.toInt := lT
  have uT : nT.toInt ≤ (8 : Int) := uT
  obtain ⟨o1, o2⟩ := lay.1 (19, 19, 33) (by decide +kernel)
  have loop : ∀ i j : Nat, i + j = nT.toInt.toNat → (∀ u : Nat, u < j → hi h (q + 19) u ≠ s.toInt) → G (2, [(2, .inl (.int (Int32.ofNat j))), (0, .inl (.ref q)), (1, .inl (.int s))], [], h, 0, 0) := by
    intro i
    induction i with
    | zero =>
      intro j hj hu
      have ej := nI_int (k := j) (by omega)
      refine zrn_ok HW 2 (zB_iff.mpr (?_ : G (4, [(2, .inl (.int (Int32.ofNat j))), (0, .inl (.ref q)), (1, .inl (.int s))], [.inl (.ref q), .inl (.int (Int32.ofNat j))], h, 0, 0)))
      refine g_getf HW rfl hok hq_q rfl gT ?_
      refine zrn_ok HW 1 (zbr_ex (cd := .ge) (x := Int32.ofNat j) (y := nT) (fun hc => zB_iff.mpr ?_) (fun hc => zB_iff.mpr ?_))
      · refine zrn_ok HW 2 ?_
        exact zret_i rfl rfl (k0 (fun t ht => hu t (by omega)))
      · exfalso
        have := Int32.lt_iff_toInt_lt.mp (Int32.not_le.mp hc)
        omega
    | succ i ih =>
      intro j hj hu
      have ej := nI_int (k := j) (by omega)
      refine zrn_ok HW 2 (zB_iff.mpr (?_ : G (4, [(2, .inl (.int (Int32.ofNat j))), (0, .inl (.ref q)), (1, .inl (.int s))], [.inl (.ref q), .inl (.int (Int32.ofNat j))], h, 0, 0)))
      refine g_getf HW rfl hok hq_q rfl gT ?_
      refine zrn_ok HW 1 (zbr_ex (cd := .ge) (x := Int32.ofNat j) (y := nT) (fun hc => zB_iff.mpr ?_) (fun hc => zB_iff.mpr ?_))
      · exfalso
        have := Int32.le_iff_toInt_le.mp (show nT ≤ Int32.ofNat j from hc)
        omega
      · refine zrn_ok HW 1 (zB_iff.mpr (?_ : G (11, [(2, .inl (.int (Int32.ofNat j))), (0, .inl (.ref q)), (1, .inl (.int s))], [.inl (.ref q)], h, 0, 0)))
        refine g_getf HW rfl hok hq_q rfl o1 ?_
        refine zrn_ok HW 1 (zB_iff.mpr (?_ : G (15, [(2, .inl (.int (Int32.ofNat j))), (0, .inl (.ref q)), (1, .inl (.int s))], [.inl (.int (Int32.ofNat j)), .inl (.ref (q + 19))], h, 0, 0)))
        obtain ⟨w, gw, ew, lw, uw⟩ := hi_val (i := (Int32.ofNat j).toInt.toNat) hok o2 (by show _ < 8; omega) rfl
        have e2 : (Int32.ofNat j).toInt.toNat = j := by omega
        refine g_iald HW rfl hok o2 rfl (by omega) gw ?_
        rw [e2] at ew
        refine zrn_ok HW 2 (zbr_ex (cd := .ne) (x := w) (y := s) (fun hc => zB_iff.mpr ?_) (fun hc => zB_iff.mpr ?_))
        · refine zrn_ok HW 2 (zB_iff.mpr ?_)
          have hne : w.toInt ≠ s.toInt := fun e => hc (Int32.toInt_inj.mp e)
          have := ih (j + 1) (by omega) (fun u hu2 => by
            by_cases e : u = j
            · subst e
              rw [show hi h (q + 19) u = w.toInt from ew]
              exact hne
            · exact hu u (by omega))
          rw [← nI_add1] at this
          exact this
        · refine zrn_ok HW 2 ?_
          have e : w = s := Classical.not_not.mp hc
          refine zret_i rfl rfl (k1 j (by omega) ?_ hu)
          rw [show hi h (q + 19) j = w.toInt from ew, e]
  refine zrn_ok HW 2 (zB_iff.mpr ?_)
  exact loop nT.toInt.toNat 0 (by omega) (fun u hu => absurd hu (by omega))
theorem c_thingOn6 {scr : List zV} {d : Nat} {T : List Nat} {h : zH} {q : Nat} {s : Int32} {post : Option zV → zH → Bool} (hok : hOK zty T h) (hq_q : T[q]? = some 6) (lay : pLay T h q) (k1 : ∀ t : Nat, (t : Int) < hi h q 17 → hi h (q + 19) t = s.toInt → (∀ u : Nat, u < t → hi h (q + 19) u ≠ s.toInt) → post (some (.inl (.int (Int32.ofNat t)))) h = true) (k0 : (∀ t : Nat, (t : Int) < hi h q 17 → hi h (q + 19) t ≠ s.toInt) → post (some (.inl (.int (-1)))) h = true) : zD zprog scr (d + 1) 238 [.inl (.ref q), .inl (.int s)] h post = true := by
  refine zD_intro (E := ze_X5_thingOn) rfl rfl (fun G HW => ?_)
  obtain ⟨nT, gT, eT, lT, uT⟩ := hi_val (i := 17) hok hq_q (by decide) rfl
  have lT : (0 : Int) ≤ nT.toInt := lT
  have uT : nT.toInt ≤ (8 : Int) := uT
  obtain ⟨o1, o2⟩ := lay.1 (19, 19, 33) (by decide +kernel)
  have loop : ∀ i j : Nat, i + j = nT.toInt.toNat → (∀ u : Nat, u < j → hi h (q + 19) u ≠ s.toInt) → G (2, [(2, .inl (.int (Int32.ofNat j))), (0, .inl (.ref q)), (1, .inl (.int s))], [], h, 0, 0) := by
    intro i
    induction i with
    | zero =>
      intro j hj hu
      have ej := nI_int (k := j) (by omega)
      refine zrn_ok HW 2 (zB_iff.mpr (?_ : G (4, [(2, .inl (.int (Int32.ofNat j))), (0, .inl (.ref q)), (1, .inl (.int s))], [.inl (.ref q), .inl (.int (Int32.ofNat j))], h, 0, 0)))
      refine g_getf HW rfl hok hq_q rfl gT ?_
      refine zrn_ok HW 1 (zbr_ex (cd := .ge) (x := Int32.ofNat j) (y := nT) (fun hc => zB_iff.mpr ?_) (fun hc => zB_iff.mpr ?_))
      · refine zrn_ok HW 2 ?_
        exact zret_i rfl rfl (k0 (fun t ht => hu t (by omega)))
      · exfalso
        have := Int32.lt_iff_toInt_lt.mp (Int32.not_le.mp hc)
        omega
    | succ i ih =>
      intro j hj hu
      have ej := nI_int (k := j) (by omega)
      refine zrn_ok HW 2 (zB_iff.mpr (?_ : G (4, [(2, .inl (.int (Int32.ofNat j))), (0, .inl (.ref q)), (1, .inl (.int s))], [.inl (.ref q), .inl (.int (Int32.ofNat j))], h, 0, 0)))
      refine g_getf HW rfl hok hq_q rfl gT ?_
      refine zrn_ok HW 1 (zbr_ex (cd := .ge) (x := Int32.ofNat j) (y := nT) (fun hc => zB_iff.mpr ?_) (fun hc => zB_iff.mpr ?_))
      · exfalso
        have := Int32.le_iff_toInt_le.mp (show nT ≤ Int32.ofNat j from hc)
        omega
      · refine zrn_ok HW 1 (zB_iff.mpr (?_ : G (11, [(2, .inl (.int (Int32.ofNat j))), (0, .inl (.ref q)), (1, .inl (.int s))], [.inl (.ref q)], h, 0, 0)))
        refine g_getf HW rfl hok hq_q rfl o1 ?_
        refine zrn_ok HW 1 (zB_iff.mpr (?_ : G (15, [(2, .inl (.int (Int32.ofNat j))), (0, .inl (.ref q)), (1, .inl (.int s))], [.inl (.int (Int32.ofNat j)), .inl (.ref (q + 19))], h, 0, 0)))
        obtain ⟨w, gw, ew, lw, uw⟩ := hi_val (i := (Int32.ofNat j).toInt.toNat) hok o2 (by show _ < 8; omega) rfl
        have e2 : (Int32.ofNat j).toInt.toNat = j := by omega
        refine g_iald HW rfl hok o2 rfl (by omega) gw ?_
        rw [e2] at ew
        refine zrn_ok HW 2 (zbr_ex (cd := .ne) (x := w) (y := s) (fun hc => zB_iff.mpr ?_) (fun hc => zB_iff.mpr ?_))
        · refine zrn_ok HW 2 (zB_iff.mpr ?_)
          have hne : w.toInt ≠ s.toInt := fun e => hc (Int32.toInt_inj.mp e)
          have := ih (j + 1) (by omega) (fun u hu2 => by
            by_cases e : u = j
            · subst e
              rw [show hi h (q + 19) u = w.toInt from ew]
              exact hne
            · exact hu u (by omega))
          rw [← nI_add1] at this
          exact this
        · refine zrn_ok HW 2 ?_
          have e : w = s := Classical.not_not.mp hc
          refine zret_i rfl rfl (k1 j (by omega) ?_ hu)
          rw [show hi h (q + 19) j = w.toInt from ew, e]
  refine zrn_ok HW 2 (zB_iff.mpr ?_)
  exact loop nT.toInt.toNat 0 (by omega) (fun u hu => absurd hu (by omega))
theorem c_thingOn {scr : List zV} {d : Nat} {T : List Nat} {h : zH} {q τ : Nat} {s : Int32} {post : Option zV → zH → Bool} (hok : hOK zty T h) (hq : T[q]? = some τ) (hτ : τ = 5 ∨ τ = 6) (lay : pLay T h q) (k1 : ∀ t : Nat, (t : Int) < hi h q 17 → hi h (q + 19) t = s.toInt → (∀ u : Nat, u < t → hi h (q + 19) u ≠ s.toInt) → post (some (.inl (.int (Int32.ofNat t)))) h = true) (k0 : (∀ t : Nat, (t : Int) < hi h q 17 → hi h (q + 19) t ≠ s.toInt) → post (some (.inl (.int (-1)))) h = true) : zD zprog scr (d + 1) 238 [.inl (.ref q), .inl (.int s)] h post = true := by
  rcases hτ with rfl | rfl
  · exact c_thingOn5 hok hq lay k1 k0
  · exact c_thingOn6 hok hq lay k1 k0
