theorem hi_eq2 {h h' : zH} {q q' i i' : Nat} (e : hget h' q' i' = hget h q i) : hi h' q' i' = hi h q i := by
  unfold hi
  rw [e]
theorem lay_ty {T : List Nat} {h : zH} {q k : Nat} (lay : pLay T h q) (h1 : 1 ≤ k) (h2 : k ≤ 29) : ∃ σ, T[q + k]? = some σ ∧ σ ≠ 5 ∧ σ ≠ 6 := by
  have key : ∀ k, k < 30 → 1 ≤ k → (∃ o ∈ pOff, o.2.1 = k ∧ o.2.2 ≠ 5 ∧ o.2.2 ≠ 6) ∨ (5 ≤ k ∧ k ≤ 12) ∨ (25 ≤ k ∧ k ≤ 28) := by decide +kernel
  rcases key k (by omega) h1 with ⟨o, ho, e, h5, h6⟩ | h3 | h3
  · have := (lay.1 o ho).2
    rw [e] at this
    exact ⟨_, this, h5, h6⟩
  · have := (lay.2.1 (k - 5) (by omega)).2
    rw [show q + (5 + (k - 5)) = q + k by omega] at this
    exact ⟨_, this, by decide, by decide⟩
  · have := (lay.2.2 (k - 25) (by omega)).2
    rw [show q + (25 + (k - 25)) = q + k by omega] at this
    exact ⟨_, this, by decide, by decide⟩
theorem p_apart {T : List Nat} {h : zH} {q m τ σ : Nat} (lq : pLay T h q) (lm : pLay T h m) (hq : T[q]? = some τ) (hm : T[m]? = some σ) (hτ : τ = 5 ∨ τ = 6) (hσ : σ = 5 ∨ σ = 6) (hne : τ ≠ σ) : q + 30 ≤ m ∨ m + 30 ≤ q := by
  by_cases h1 : q < m
  · by_cases h2 : q + 30 ≤ m
    · exact Or.inl h2
    · obtain ⟨ρ, e, h5, h6⟩ := lay_ty (k := m - q) lq (by omega) (by omega)
      rw [show q + (m - q) = m by omega, hm] at e
      cases e
      omega
  · by_cases h2 : m < q
    · by_cases h3 : m + 30 ≤ q
      · exact Or.inr h3
      · obtain ⟨ρ, e, h5, h6⟩ := lay_ty (k := q - m) lm (by omega) (by omega)
        rw [show m + (q - m) = q by omega, hq] at e
        cases e
        omega
    · have e : q = m := by omega
      rw [e, hm] at hq
      cases hq
      exact absurd rfl hne
theorem g_alen {E : zE} {scr : List zV} {rc rs : Nat} {cc : zK} {post : Option zV → zH → Bool} {G : zS → Prop} {pc nc ns : Nat} {L : zL} {st : List zV} {h : zH} {T : List Nat} {q τ : Nat} (HW : zWalk zprog E scr rc rs cc post G) {w : zV × Nat × Nat × Nat × Nat} (hf : zft (zEd E) pc = some (.arraylength, w)) (hok : hOK zty T h) (hq : T[q]? = some τ) (ht : 10 ≤ (zty τ).1) (kk : G (pc + 1, L, .inl (.int (Int32.ofNat (zty τ).2.1)) :: st, h, nc, ns)) : G (pc, L, .inl (.ref q) :: st, h, nc, ns) := by
  obtain ⟨vs, h1, h2, h3⟩ := hOK_cell hok hq
  refine g_step HW hf rfl ?_
  show (if q = 10000000 then _ else (match h[q]? with
    | some x => Nat.blt q 1000000 && (Nat.ble 10 x.1 && zB (G (pc + 1, L, .inl (.int (Int32.ofNat x.2.length)) :: st, h, nc, ns)))
    | none => false)) = true
  rw [if_neg (by omega), h1]
  refine t_and2 (t_blt h3) (t_and2 (t_ble ht) (zB_iff.mpr ?_))
  show G (pc + 1, L, .inl (.int (Int32.ofNat vs.length)) :: st, h, nc, ns)
  rw [h2]
  exact kk
theorem c_over {N : Nat} {scr : List zV} {d : Nat} {T : List Nat} {h : zH} {a b σ : Nat} {post : Option zV → zH → Bool} (ok : wOK (fun _ _ => True) N T h) (ta : T[a]? = some σ) (tb : T[b]? = some σ) (hne : a ≠ b) (ht : (zty σ).1 = 10) (hn : (zty σ).2.1 ≤ 61) (hu : ∀ i, (zty σ).2.2 i = (zty σ).2.2 0) (h0 : ((zty σ).2.2 0).1 = 0)
    (kk : ∀ h' : zH, wOK (fun _ _ => True) N T h' → (∀ p i : Nat, p ≠ b → hget h' p i = hget h p i) → (∀ i : Nat, i < (zty σ).2.1 → hget h' b i = hget h a i) → post none h' = true) : zD zprog scr (d + 1) 206 [.inl (.ref a), .inl (.ref b)] h post = true := by
  refine zD_intro (E := ze_X5_over) rfl rfl (fun G HW => ?_)
  have loop : ∀ i j : Nat, i + j = (zty σ).2.1 → ∀ hl : zH, wOK (fun _ _ => True) N T hl → (∀ p i : Nat, p ≠ b → hget hl p i = hget h p i) → (∀ i : Nat, i < j → hget hl b i = hget h a i) → G (2, [(2, .inl (.int (Int32.ofNat j))), (0, .inl (.ref a)), (1, .inl (.ref b))], [], hl, 0, 0) := by
    intro i
    induction i with
    | zero =>
      intro j hj hl okl F C
      have ej := nI_int (k := j) (by omega)
      have en := nI_int (k := (zty σ).2.1) (by omega)
      refine zrn_ok HW 2 (zB_iff.mpr (?_ : G (4, [(2, .inl (.int (Int32.ofNat j))), (0, .inl (.ref a)), (1, .inl (.ref b))], [.inl (.ref a), .inl (.int (Int32.ofNat j))], hl, 0, 0)))
      refine g_alen HW rfl okl.1 ta (by omega) ?_
      refine zrn_ok HW 1 (zbr_ex (cd := .ge) (x := Int32.ofNat j) (y := Int32.ofNat (zty σ).2.1) (fun hc => zB_iff.mpr ?_) (fun hc => zB_iff.mpr ?_))
      · refine zrn_ok HW 1 ?_
        exact zret_v rfl (kk hl okl F (fun i hi => C i (by omega)))
      · exfalso
        have : ¬ ((Int32.ofNat j).toInt ≥ (Int32.ofNat (zty σ).2.1).toInt) := fun e => hc (zop_int.mpr e)
        omega
    | succ i ih =>
      intro j hj hl okl F C
      have ej := nI_int (k := j) (by omega)
      have en := nI_int (k := (zty σ).2.1) (by omega)
      have ejn : (Int32.ofNat j).toInt.toNat = j := by omega
      refine zrn_ok HW 2 (zB_iff.mpr (?_ : G (4, [(2, .inl (.int (Int32.ofNat j))), (0, .inl (.ref a)), (1, .inl (.ref b))], [.inl (.ref a), .inl (.int (Int32.ofNat j))], hl, 0, 0)))
      refine g_alen HW rfl okl.1 ta (by omega) ?_
      refine zrn_ok HW 1 (zbr_ex (cd := .ge) (x := Int32.ofNat j) (y := Int32.ofNat (zty σ).2.1) (fun hc => zB_iff.mpr ?_) (fun hc => zB_iff.mpr ?_))
      · exfalso
        have : (Int32.ofNat j).toInt ≥ (Int32.ofNat (zty σ).2.1).toInt := zop_int.mp hc
        omega
      · refine zrn_ok HW 4 (zB_iff.mpr (?_ : G (12, [(2, .inl (.int (Int32.ofNat j))), (0, .inl (.ref a)), (1, .inl (.ref b))], [.inl (.int (Int32.ofNat j)), .inl (.ref a), .inl (.int (Int32.ofNat j)), .inl (.ref b)], hl, 0, 0)))
        obtain ⟨x, gx, ex, lx, ux⟩ := hi_val (i := (Int32.ofNat j).toInt.toNat) okl.1 ta (by omega) (by rw [hu]; exact h0)
        refine g_iald HW rfl okl.1 ta ht (by omega) gx ?_
        have okS1 : okS T ((zty σ).2.2 (Int32.ofNat j).toInt.toNat) (.inl (.int x)) := by
          unfold okS
          rw [show ((zty σ).2.2 (Int32.ofNat j).toInt.toNat).1 = 0 by rw [hu]; exact h0]
          exact ⟨x, rfl, lx, ux⟩
        have ok2 : wOK (fun _ _ => True) N T (hput hl b (Int32.ofNat j).toInt.toNat (.inl (.int x))) := ⟨hOK_put okl.1 tb okS1, trivial, by rw [hput_len]; exact okl.2.2⟩
        refine g_iast HW rfl okl.1 tb ht (by omega) (by omega) ?_
        obtain ⟨w, gw, -⟩ := hOK_get (i := j) okl.1 tb (by omega)
        rw [ejn] at gx ok2 ⊢
        refine zrn_ok HW 2 (zB_iff.mpr ?_)
        have := ih (j + 1) (by omega) _ ok2 (fun p i hp => (hget_put_ne (Or.inl hp)).trans (F p i hp)) (fun i hi => by
          by_cases e : i = j
          · subst e
            rw [hget_put gw, ← gx]
            exact F a i hne
          · rw [hget_put_ne (Or.inr e)]
            exact C i (by omega))
        rw [← nI_add1] at this
        exact this
  refine zrn_ok HW 2 (zB_iff.mpr ?_)
  exact loop (zty σ).2.1 0 (by omega) h ok (fun _ _ _ => rfl) (fun i hi => absurd hi (by omega))
theorem c_takeFrom6 {P : pP} {N : Nat} {scr : List zV} {d : Nat} {T : List Nat} {h : zH} {q m : Nat} {post : Option zV → zH → Bool} (ok0 : wOK (zPhi P) N T h) (hq_q : T[q]? = some 6) (hq_m : T[m]? = some 5) (kk : ∀ h' : zH, wOK (zPhi P) N T h' → (∀ p i : Nat, T[p]? = some 28 → hget h' p i = hget h p i) → (∀ i, hget h' m i = hget h m i) → post none h' = true) : zD zprog scr (d + 2) 232 [.inl (.ref q), .inl (.ref m)] h post = true := by
  have ok : wOK (fun _ _ => True) N T h := ⟨ok0.1, trivial, ok0.2.2⟩
  have hst := hstT
  obtain ⟨lay, -⟩ := ok0.2.1.2.1 q 6 hq_q (Or.inr rfl)
  obtain ⟨laym, hJm⟩ := ok0.2.1.2.1 m 5 hq_m (Or.inl rfl)
  have ap := p_apart lay laym hq_q hq_m (by decide) (by decide) (by decide)
  refine zD_intro (E := ze_X5_takeFrom) rfl rfl (fun G HW => ?_)
  obtain ⟨m9, gm9, em9, lm9, um9⟩ := hi_val (i := 9) ok.1 hq_m (by decide) rfl
  have lm9 : (1 : Int) ≤ m9.toInt := lm9
  have um9 : m9.toInt ≤ (60 : Int) := um9
  obtain ⟨m17, gm17, em17, lm17, um17⟩ := hi_val (i := 17) ok.1 hq_m (by decide) rfl
  have lm17 : (0 : Int) ≤ m17.toInt := lm17
  have um17 : m17.toInt ≤ (8 : Int) := um17
  refine zrn_ok HW 2 (zB_iff.mpr (?_ : G (2, [(0, .inl (.ref q)), (1, .inl (.ref m))], [.inl (.ref m), .inl (.ref q)], h, 0, 0)))
  have g2 : hget h m 9 = some (.inl (.int m9)) := (show hget h m 9 = hget h m 9 from rfl).trans gm9
  refine g_getf HW rfl ok.1 hq_m rfl g2 ?_
  have ok3 : wOK (fun _ _ => True) N T (hput h q 9 (.inl (.int m9))) := ⟨hOK_put ok.1 hq_q ⟨_, rfl, (by show (1 : Int) ≤ _; omega), (by show _ ≤ (60 : Int); omega)⟩, trivial, by rw [hput_len]; exact ok.2.2⟩
  refine g_putf HW rfl ok.1 hq_q rfl (by decide) rfl ?_
  refine zrn_ok HW 2 (zB_iff.mpr (?_ : G (10, [(0, .inl (.ref q)), (1, .inl (.ref m))], [.inl (.ref m), .inl (.ref q)], (hput h q 9 (.inl (.int m9))), 0, 0)))
  obtain ⟨x4, g4, e4, l4, u4⟩ := hi_val (i := 10) ok3.1 hq_m (by decide) rfl
  have l4 : (2 : Int) ≤ x4.toInt := l4
  have u4 : x4.toInt ≤ (10 : Int) := u4
  refine g_getf HW rfl ok3.1 hq_m rfl g4 ?_
  have ok5 : wOK (fun _ _ => True) N T (hput (hput h q 9 (.inl (.int m9))) q 10 (.inl (.int x4))) := wOK_put hst ok3 hq_q rfl ⟨_, rfl, (by show (2 : Int) ≤ _; omega), (by show _ ≤ (10 : Int); omega)⟩
  refine g_putf HW rfl ok3.1 hq_q rfl (by decide) rfl ?_
  refine zrn_ok HW 2 (zB_iff.mpr (?_ : G (18, [(0, .inl (.ref q)), (1, .inl (.ref m))], [.inl (.ref m), .inl (.ref q)], (hput (hput h q 9 (.inl (.int m9))) q 10 (.inl (.int x4))), 0, 0)))
  obtain ⟨x6, g6, e6, l6, u6⟩ := hi_val (i := 11) ok5.1 hq_m (by decide) rfl
  have l6 : (1 : Int) ≤ x6.toInt := l6
  have u6 : x6.toInt ≤ (495 : Int) := u6
  refine g_getf HW rfl ok5.1 hq_m rfl g6 ?_
  have ok7 : wOK (fun _ _ => True) N T (hput (hput (hput h q 9 (.inl (.int m9))) q 10 (.inl (.int x4))) q 11 (.inl (.int x6))) := wOK_put hst ok5 hq_q rfl ⟨_, rfl, (by show (1 : Int) ≤ _; omega), (by show _ ≤ (495 : Int); omega)⟩
  refine g_putf HW rfl ok5.1 hq_q rfl (by decide) rfl ?_
  refine zrn_ok HW 2 (zB_iff.mpr (?_ : G (26, [(0, .inl (.ref q)), (1, .inl (.ref m))], [.inl (.ref m), .inl (.ref q)], (hput (hput (hput h q 9 (.inl (.int m9))) q 10 (.inl (.int x4))) q 11 (.inl (.int x6))), 0, 0)))
  obtain ⟨x8, g8, e8, l8, u8⟩ := hi_val (i := 12) ok7.1 hq_m (by decide) rfl
  have l8 : (1 : Int) ≤ x8.toInt := l8
  have u8 : x8.toInt ≤ (495 : Int) := u8
  refine g_getf HW rfl ok7.1 hq_m rfl g8 ?_
  have ok9 : wOK (fun _ _ => True) N T (hput (hput (hput (hput h q 9 (.inl (.int m9))) q 10 (.inl (.int x4))) q 11 (.inl (.int x6))) q 12 (.inl (.int x8))) := wOK_put hst ok7 hq_q rfl ⟨_, rfl, (by show (1 : Int) ≤ _; omega), (by show _ ≤ (495 : Int); omega)⟩
  refine g_putf HW rfl ok7.1 hq_q rfl (by decide) rfl ?_
  refine zrn_ok HW 2 (zB_iff.mpr (?_ : G (34, [(0, .inl (.ref q)), (1, .inl (.ref m))], [.inl (.ref m), .inl (.ref q)], (hput (hput (hput (hput h q 9 (.inl (.int m9))) q 10 (.inl (.int x4))) q 11 (.inl (.int x6))) q 12 (.inl (.int x8))), 0, 0)))
  obtain ⟨x10, g10, e10, l10, u10⟩ := hi_val (i := 13) ok9.1 hq_m (by decide) rfl
  have l10 : ((-2147483648) : Int) ≤ x10.toInt := l10
  have u10 : x10.toInt ≤ (2147483647 : Int) := u10
  refine g_getf HW rfl ok9.1 hq_m rfl g10 ?_
  have ok11 : wOK (fun _ _ => True) N T (hput (hput (hput (hput (hput h q 9 (.inl (.int m9))) q 10 (.inl (.int x4))) q 11 (.inl (.int x6))) q 12 (.inl (.int x8))) q 13 (.inl (.int x10))) := wOK_put hst ok9 hq_q rfl ⟨_, rfl, t_lo _, t_hi _⟩
  refine g_putf HW rfl ok9.1 hq_q rfl (by decide) rfl ?_
  refine zrn_ok HW 2 (zB_iff.mpr (?_ : G (42, [(0, .inl (.ref q)), (1, .inl (.ref m))], [.inl (.ref m), .inl (.ref q)], (hput (hput (hput (hput (hput h q 9 (.inl (.int m9))) q 10 (.inl (.int x4))) q 11 (.inl (.int x6))) q 12 (.inl (.int x8))) q 13 (.inl (.int x10))), 0, 0)))
  obtain ⟨x12, g12, e12, l12, u12⟩ := hi_val (i := 14) ok11.1 hq_m (by decide) rfl
  have l12 : ((-2147483648) : Int) ≤ x12.toInt := l12
  have u12 : x12.toInt ≤ (2147483647 : Int) := u12
  refine g_getf HW rfl ok11.1 hq_m rfl g12 ?_
  have ok13 : wOK (fun _ _ => True) N T (hput (hput (hput (hput (hput (hput h q 9 (.inl (.int m9))) q 10 (.inl (.int x4))) q 11 (.inl (.int x6))) q 12 (.inl (.int x8))) q 13 (.inl (.int x10))) q 14 (.inl (.int x12))) := wOK_put hst ok11 hq_q rfl ⟨_, rfl, t_lo _, t_hi _⟩
  refine g_putf HW rfl ok11.1 hq_q rfl (by decide) rfl ?_
  refine zrn_ok HW 2 (zB_iff.mpr (?_ : G (50, [(0, .inl (.ref q)), (1, .inl (.ref m))], [.inl (.ref m), .inl (.ref q)], (hput (hput (hput (hput (hput (hput h q 9 (.inl (.int m9))) q 10 (.inl (.int x4))) q 11 (.inl (.int x6))) q 12 (.inl (.int x8))) q 13 (.inl (.int x10))) q 14 (.inl (.int x12))), 0, 0)))
  obtain ⟨x14, g14, e14, l14, u14⟩ := hi_val (i := 15) ok13.1 hq_m (by decide) rfl
  have l14 : ((-2147483648) : Int) ≤ x14.toInt := l14
  have u14 : x14.toInt ≤ (2147483647 : Int) := u14
  refine g_getf HW rfl ok13.1 hq_m rfl g14 ?_
  have ok15 : wOK (fun _ _ => True) N T (hput (hput (hput (hput (hput (hput (hput h q 9 (.inl (.int m9))) q 10 (.inl (.int x4))) q 11 (.inl (.int x6))) q 12 (.inl (.int x8))) q 13 (.inl (.int x10))) q 14 (.inl (.int x12))) q 15 (.inl (.int x14))) := wOK_put hst ok13 hq_q rfl ⟨_, rfl, t_lo _, t_hi _⟩
  refine g_putf HW rfl ok13.1 hq_q rfl (by decide) rfl ?_
  refine zrn_ok HW 1 (zB_iff.mpr (?_ : G (57, [(0, .inl (.ref q)), (1, .inl (.ref m))], [.inl (.ref m)], (hput (hput (hput (hput (hput (hput (hput h q 9 (.inl (.int m9))) q 10 (.inl (.int x4))) q 11 (.inl (.int x6))) q 12 (.inl (.int x8))) q 13 (.inl (.int x10))) q 14 (.inl (.int x12))) q 15 (.inl (.int x14))), 0, 0)))
  have o17 : hget (hput (hput (hput (hput (hput (hput (hput h q 9 (.inl (.int m9))) q 10 (.inl (.int x4))) q 11 (.inl (.int x6))) q 12 (.inl (.int x8))) q 13 (.inl (.int x10))) q 14 (.inl (.int x12))) q 15 (.inl (.int x14))) m 16 = some (.inl (.ref (m + 17))) := (show hget (hput (hput (hput (hput (hput (hput (hput h q 9 (.inl (.int m9))) q 10 (.inl (.int x4))) q 11 (.inl (.int x6))) q 12 (.inl (.int x8))) q 13 (.inl (.int x10))) q 14 (.inl (.int x12))) q 15 (.inl (.int x14))) m 16 = hget h m 16 from (hget_put_ne (by omega)).trans ((hget_put_ne (by omega)).trans ((hget_put_ne (by omega)).trans ((hget_put_ne (by omega)).trans ((hget_put_ne (by omega)).trans ((hget_put_ne (by omega)).trans ((hget_put_ne (by omega)).trans (rfl)))))))).trans (laym.1 (16, 17, 31) (by decide +kernel)).1
  have t17 : T[m + 17]? = some 31 := (laym.1 (16, 17, 31) (by decide +kernel)).2
  refine g_getf HW rfl ok15.1 hq_m rfl o17 ?_
  refine zrn_ok HW 1 (zB_iff.mpr (?_ : G (61, [(0, .inl (.ref q)), (1, .inl (.ref m))], [.inl (.ref q), .inl (.ref (m + 17))], (hput (hput (hput (hput (hput (hput (hput h q 9 (.inl (.int m9))) q 10 (.inl (.int x4))) q 11 (.inl (.int x6))) q 12 (.inl (.int x8))) q 13 (.inl (.int x10))) q 14 (.inl (.int x12))) q 15 (.inl (.int x14))), 0, 0)))
  have o19 : hget (hput (hput (hput (hput (hput (hput (hput h q 9 (.inl (.int m9))) q 10 (.inl (.int x4))) q 11 (.inl (.int x6))) q 12 (.inl (.int x8))) q 13 (.inl (.int x10))) q 14 (.inl (.int x12))) q 15 (.inl (.int x14))) q 16 = some (.inl (.ref (q + 17))) := (show hget (hput (hput (hput (hput (hput (hput (hput h q 9 (.inl (.int m9))) q 10 (.inl (.int x4))) q 11 (.inl (.int x6))) q 12 (.inl (.int x8))) q 13 (.inl (.int x10))) q 14 (.inl (.int x12))) q 15 (.inl (.int x14))) q 16 = hget h q 16 from (hget_put_ne (by omega)).trans ((hget_put_ne (by omega)).trans ((hget_put_ne (by omega)).trans ((hget_put_ne (by omega)).trans ((hget_put_ne (by omega)).trans ((hget_put_ne (by omega)).trans ((hget_put_ne (by omega)).trans (rfl)))))))).trans (lay.1 (16, 17, 31) (by decide +kernel)).1
  have t19 : T[q + 17]? = some 31 := (lay.1 (16, 17, 31) (by decide +kernel)).2
  refine g_getf HW rfl ok15.1 hq_q rfl o19 ?_
  refine g_callS (b := 0) (E' := ze_X5_over) HW (Or.inl rfl) rfl rfl (Nat.le_of_ble_eq_true rfl) (Nat.le_of_ble_eq_true rfl) (Nat.le_of_ble_eq_true rfl) (Nat.le_of_ble_eq_true rfl) (c_over ok15 t17 t19 (by omega) rfl (by decide) (fun _ => rfl) rfl (fun h20 ok20 F20 C20 => zB_iff.mpr ?_))
  show G (67, [(0, .inl (.ref q)), (1, .inl (.ref m))], [], h20, 0, 0)
  refine zrn_ok HW 2 (zB_iff.mpr (?_ : G (69, [(0, .inl (.ref q)), (1, .inl (.ref m))], [.inl (.ref m), .inl (.ref q)], h20, 0, 0)))
  have g22 : hget h20 m 17 = some (.inl (.int m17)) := (show hget h20 m 17 = hget h m 17 from (F20 _ _ (by omega)).trans ((hget_put_ne (by omega)).trans ((hget_put_ne (by omega)).trans ((hget_put_ne (by omega)).trans ((hget_put_ne (by omega)).trans ((hget_put_ne (by omega)).trans ((hget_put_ne (by omega)).trans ((hget_put_ne (by omega)).trans (rfl))))))))).trans gm17
  refine g_getf HW rfl ok20.1 hq_m rfl g22 ?_
  have ok23 : wOK (fun _ _ => True) N T (hput h20 q 17 (.inl (.int m17))) := ⟨hOK_put ok20.1 hq_q ⟨_, rfl, (by show (0 : Int) ≤ _; omega), (by show _ ≤ (8 : Int); omega)⟩, trivial, by rw [hput_len]; exact ok20.2.2⟩
  refine g_putf HW rfl ok20.1 hq_q rfl (by decide) rfl ?_
  refine zrn_ok HW 1 (zB_iff.mpr (?_ : G (76, [(0, .inl (.ref q)), (1, .inl (.ref m))], [.inl (.ref m)], (hput h20 q 17 (.inl (.int m17))), 0, 0)))
  have o25 : hget (hput h20 q 17 (.inl (.int m17))) m 18 = some (.inl (.ref (m + 18))) := (show hget (hput h20 q 17 (.inl (.int m17))) m 18 = hget h m 18 from (hget_put_ne (by omega)).trans ((F20 _ _ (by omega)).trans ((hget_put_ne (by omega)).trans ((hget_put_ne (by omega)).trans ((hget_put_ne (by omega)).trans ((hget_put_ne (by omega)).trans ((hget_put_ne (by omega)).trans ((hget_put_ne (by omega)).trans ((hget_put_ne (by omega)).trans (rfl)))))))))).trans (laym.1 (18, 18, 32) (by decide +kernel)).1
  have t25 : T[m + 18]? = some 32 := (laym.1 (18, 18, 32) (by decide +kernel)).2
  refine g_getf HW rfl ok23.1 hq_m rfl o25 ?_
  refine zrn_ok HW 1 (zB_iff.mpr (?_ : G (80, [(0, .inl (.ref q)), (1, .inl (.ref m))], [.inl (.ref q), .inl (.ref (m + 18))], (hput h20 q 17 (.inl (.int m17))), 0, 0)))
  have o27 : hget (hput h20 q 17 (.inl (.int m17))) q 18 = some (.inl (.ref (q + 18))) := (show hget (hput h20 q 17 (.inl (.int m17))) q 18 = hget h q 18 from (hget_put_ne (by omega)).trans ((F20 _ _ (by omega)).trans ((hget_put_ne (by omega)).trans ((hget_put_ne (by omega)).trans ((hget_put_ne (by omega)).trans ((hget_put_ne (by omega)).trans ((hget_put_ne (by omega)).trans ((hget_put_ne (by omega)).trans ((hget_put_ne (by omega)).trans (rfl)))))))))).trans (lay.1 (18, 18, 32) (by decide +kernel)).1
  have t27 : T[q + 18]? = some 32 := (lay.1 (18, 18, 32) (by decide +kernel)).2
  refine g_getf HW rfl ok23.1 hq_q rfl o27 ?_
  refine g_callS (b := 0) (E' := ze_X5_over) HW (Or.inl rfl) rfl rfl (Nat.le_of_ble_eq_true rfl) (Nat.le_of_ble_eq_true rfl) (Nat.le_of_ble_eq_true rfl) (Nat.le_of_ble_eq_true rfl) (c_over ok23 t25 t27 (by omega) rfl (by decide) (fun _ => rfl) rfl (fun h28 ok28 F28 C28 => zB_iff.mpr ?_))
  show G (86, [(0, .inl (.ref q)), (1, .inl (.ref m))], [], h28, 0, 0)
  refine zrn_ok HW 1 (zB_iff.mpr (?_ : G (87, [(0, .inl (.ref q)), (1, .inl (.ref m))], [.inl (.ref m)], h28, 0, 0)))
  have o30 : hget h28 m 19 = some (.inl (.ref (m + 19))) := (show hget h28 m 19 = hget h m 19 from (F28 _ _ (by omega)).trans ((hget_put_ne (by omega)).trans ((F20 _ _ (by omega)).trans ((hget_put_ne (by omega)).trans ((hget_put_ne (by omega)).trans ((hget_put_ne (by omega)).trans ((hget_put_ne (by omega)).trans ((hget_put_ne (by omega)).trans ((hget_put_ne (by omega)).trans ((hget_put_ne (by omega)).trans (rfl))))))))))).trans (laym.1 (19, 19, 33) (by decide +kernel)).1
  have t30 : T[m + 19]? = some 33 := (laym.1 (19, 19, 33) (by decide +kernel)).2
  refine g_getf HW rfl ok28.1 hq_m rfl o30 ?_
  refine zrn_ok HW 1 (zB_iff.mpr (?_ : G (91, [(0, .inl (.ref q)), (1, .inl (.ref m))], [.inl (.ref q), .inl (.ref (m + 19))], h28, 0, 0)))
  have o32 : hget h28 q 19 = some (.inl (.ref (q + 19))) := (show hget h28 q 19 = hget h q 19 from (F28 _ _ (by omega)).trans ((hget_put_ne (by omega)).trans ((F20 _ _ (by omega)).trans ((hget_put_ne (by omega)).trans ((hget_put_ne (by omega)).trans ((hget_put_ne (by omega)).trans ((hget_put_ne (by omega)).trans ((hget_put_ne (by omega)).trans ((hget_put_ne (by omega)).trans ((hget_put_ne (by omega)).trans (rfl))))))))))).trans (lay.1 (19, 19, 33) (by decide +kernel)).1
  have t32 : T[q + 19]? = some 33 := (lay.1 (19, 19, 33) (by decide +kernel)).2
  refine g_getf HW rfl ok28.1 hq_q rfl o32 ?_
  refine g_callS (b := 0) (E' := ze_X5_over) HW (Or.inl rfl) rfl rfl (Nat.le_of_ble_eq_true rfl) (Nat.le_of_ble_eq_true rfl) (Nat.le_of_ble_eq_true rfl) (Nat.le_of_ble_eq_true rfl) (c_over ok28 t30 t32 (by omega) rfl (by decide) (fun _ => rfl) rfl (fun h33 ok33 F33 C33 => zB_iff.mpr ?_))
  show G (97, [(0, .inl (.ref q)), (1, .inl (.ref m))], [], h33, 0, 0)
  refine zrn_ok HW 1 (zB_iff.mpr (?_ : G (98, [(0, .inl (.ref q)), (1, .inl (.ref m))], [.inl (.ref m)], h33, 0, 0)))
  have o35 : hget h33 m 20 = some (.inl (.ref (m + 20))) := (show hget h33 m 20 = hget h m 20 from (F33 _ _ (by omega)).trans ((F28 _ _ (by omega)).trans ((hget_put_ne (by omega)).trans ((F20 _ _ (by omega)).trans ((hget_put_ne (by omega)).trans ((hget_put_ne (by omega)).trans ((hget_put_ne (by omega)).trans ((hget_put_ne (by omega)).trans ((hget_put_ne (by omega)).trans ((hget_put_ne (by omega)).trans ((hget_put_ne (by omega)).trans (rfl)))))))))))).trans (laym.1 (20, 20, 34) (by decide +kernel)).1
  have t35 : T[m + 20]? = some 34 := (laym.1 (20, 20, 34) (by decide +kernel)).2
  refine g_getf HW rfl ok33.1 hq_m rfl o35 ?_
  refine zrn_ok HW 1 (zB_iff.mpr (?_ : G (102, [(0, .inl (.ref q)), (1, .inl (.ref m))], [.inl (.ref q), .inl (.ref (m + 20))], h33, 0, 0)))
  have o37 : hget h33 q 20 = some (.inl (.ref (q + 20))) := (show hget h33 q 20 = hget h q 20 from (F33 _ _ (by omega)).trans ((F28 _ _ (by omega)).trans ((hget_put_ne (by omega)).trans ((F20 _ _ (by omega)).trans ((hget_put_ne (by omega)).trans ((hget_put_ne (by omega)).trans ((hget_put_ne (by omega)).trans ((hget_put_ne (by omega)).trans ((hget_put_ne (by omega)).trans ((hget_put_ne (by omega)).trans ((hget_put_ne (by omega)).trans (rfl)))))))))))).trans (lay.1 (20, 20, 34) (by decide +kernel)).1
  have t37 : T[q + 20]? = some 34 := (lay.1 (20, 20, 34) (by decide +kernel)).2
  refine g_getf HW rfl ok33.1 hq_q rfl o37 ?_
  refine g_callS (b := 0) (E' := ze_X5_over) HW (Or.inl rfl) rfl rfl (Nat.le_of_ble_eq_true rfl) (Nat.le_of_ble_eq_true rfl) (Nat.le_of_ble_eq_true rfl) (Nat.le_of_ble_eq_true rfl) (c_over ok33 t35 t37 (by omega) rfl (by decide) (fun _ => rfl) rfl (fun h38 ok38 F38 C38 => zB_iff.mpr ?_))
  show G (108, [(0, .inl (.ref q)), (1, .inl (.ref m))], [], h38, 0, 0)
  refine zrn_ok HW 1 (zB_iff.mpr (?_ : G (109, [(0, .inl (.ref q)), (1, .inl (.ref m))], [.inl (.ref m)], h38, 0, 0)))
  have o40 : hget h38 m 21 = some (.inl (.ref (m + 21))) := (show hget h38 m 21 = hget h m 21 from (F38 _ _ (by omega)).trans ((F33 _ _ (by omega)).trans ((F28 _ _ (by omega)).trans ((hget_put_ne (by omega)).trans ((F20 _ _ (by omega)).trans ((hget_put_ne (by omega)).trans ((hget_put_ne (by omega)).trans ((hget_put_ne (by omega)).trans ((hget_put_ne (by omega)).trans ((hget_put_ne (by omega)).trans ((hget_put_ne (by omega)).trans ((hget_put_ne (by omega)).trans (rfl))))))))))))).trans (laym.1 (21, 21, 35) (by decide +kernel)).1
  have t40 : T[m + 21]? = some 35 := (laym.1 (21, 21, 35) (by decide +kernel)).2
  refine g_getf HW rfl ok38.1 hq_m rfl o40 ?_
  refine zrn_ok HW 1 (zB_iff.mpr (?_ : G (113, [(0, .inl (.ref q)), (1, .inl (.ref m))], [.inl (.ref q), .inl (.ref (m + 21))], h38, 0, 0)))
  have o42 : hget h38 q 21 = some (.inl (.ref (q + 21))) := (show hget h38 q 21 = hget h q 21 from (F38 _ _ (by omega)).trans ((F33 _ _ (by omega)).trans ((F28 _ _ (by omega)).trans ((hget_put_ne (by omega)).trans ((F20 _ _ (by omega)).trans ((hget_put_ne (by omega)).trans ((hget_put_ne (by omega)).trans ((hget_put_ne (by omega)).trans ((hget_put_ne (by omega)).trans ((hget_put_ne (by omega)).trans ((hget_put_ne (by omega)).trans ((hget_put_ne (by omega)).trans (rfl))))))))))))).trans (lay.1 (21, 21, 35) (by decide +kernel)).1
  have t42 : T[q + 21]? = some 35 := (lay.1 (21, 21, 35) (by decide +kernel)).2
  refine g_getf HW rfl ok38.1 hq_q rfl o42 ?_
  refine g_callS (b := 0) (E' := ze_X5_over) HW (Or.inl rfl) rfl rfl (Nat.le_of_ble_eq_true rfl) (Nat.le_of_ble_eq_true rfl) (Nat.le_of_ble_eq_true rfl) (Nat.le_of_ble_eq_true rfl) (c_over ok38 t40 t42 (by omega) rfl (by decide) (fun _ => rfl) rfl (fun h43 ok43 F43 C43 => zB_iff.mpr ?_))
  show G (119, [(0, .inl (.ref q)), (1, .inl (.ref m))], [], h43, 0, 0)
  refine zrn_ok HW 1 (zB_iff.mpr (?_ : G (120, [(0, .inl (.ref q)), (1, .inl (.ref m))], [.inl (.ref m)], h43, 0, 0)))
  have o45 : hget h43 m 22 = some (.inl (.ref (m + 22))) := (show hget h43 m 22 = hget h m 22 from (F43 _ _ (by omega)).trans ((F38 _ _ (by omega)).trans ((F33 _ _ (by omega)).trans ((F28 _ _ (by omega)).trans ((hget_put_ne (by omega)).trans ((F20 _ _ (by omega)).trans ((hget_put_ne (by omega)).trans ((hget_put_ne (by omega)).trans ((hget_put_ne (by omega)).trans ((hget_put_ne (by omega)).trans ((hget_put_ne (by omega)).trans ((hget_put_ne (by omega)).trans ((hget_put_ne (by omega)).trans (rfl)))))))))))))).trans (laym.1 (22, 22, 36) (by decide +kernel)).1
  have t45 : T[m + 22]? = some 36 := (laym.1 (22, 22, 36) (by decide +kernel)).2
  refine g_getf HW rfl ok43.1 hq_m rfl o45 ?_
  refine zrn_ok HW 1 (zB_iff.mpr (?_ : G (124, [(0, .inl (.ref q)), (1, .inl (.ref m))], [.inl (.ref q), .inl (.ref (m + 22))], h43, 0, 0)))
  have o47 : hget h43 q 22 = some (.inl (.ref (q + 22))) := (show hget h43 q 22 = hget h q 22 from (F43 _ _ (by omega)).trans ((F38 _ _ (by omega)).trans ((F33 _ _ (by omega)).trans ((F28 _ _ (by omega)).trans ((hget_put_ne (by omega)).trans ((F20 _ _ (by omega)).trans ((hget_put_ne (by omega)).trans ((hget_put_ne (by omega)).trans ((hget_put_ne (by omega)).trans ((hget_put_ne (by omega)).trans ((hget_put_ne (by omega)).trans ((hget_put_ne (by omega)).trans ((hget_put_ne (by omega)).trans (rfl)))))))))))))).trans (lay.1 (22, 22, 36) (by decide +kernel)).1
  have t47 : T[q + 22]? = some 36 := (lay.1 (22, 22, 36) (by decide +kernel)).2
  refine g_getf HW rfl ok43.1 hq_q rfl o47 ?_
  refine g_callS (b := 0) (E' := ze_X5_over) HW (Or.inl rfl) rfl rfl (Nat.le_of_ble_eq_true rfl) (Nat.le_of_ble_eq_true rfl) (Nat.le_of_ble_eq_true rfl) (Nat.le_of_ble_eq_true rfl) (c_over ok43 t45 t47 (by omega) rfl (by decide) (fun _ => rfl) rfl (fun h48 ok48 F48 C48 => zB_iff.mpr ?_))
  show G (130, [(0, .inl (.ref q)), (1, .inl (.ref m))], [], h48, 0, 0)
  refine zrn_ok HW 2 (zB_iff.mpr (?_ : G (132, [(0, .inl (.ref q)), (1, .inl (.ref m))], [.inl (.ref m), .inl (.ref q)], h48, 0, 0)))
  obtain ⟨x49, g49, e49, l49, u49⟩ := hi_val (i := 23) ok48.1 hq_m (by decide) rfl
  have l49 : (0 : Int) ≤ x49.toInt := l49
  have u49 : x49.toInt ≤ (4 : Int) := u49
  refine g_getf HW rfl ok48.1 hq_m rfl g49 ?_
  have ok50 : wOK (fun _ _ => True) N T (hput h48 q 23 (.inl (.int x49))) := wOK_put hst ok48 hq_q rfl ⟨_, rfl, (by show (0 : Int) ≤ _; omega), (by show _ ≤ (4 : Int); omega)⟩
  refine g_putf HW rfl ok48.1 hq_q rfl (by decide) rfl ?_
  refine zrn_ok HW 1 (zB_iff.mpr (?_ : G (139, [(0, .inl (.ref q)), (1, .inl (.ref m))], [.inl (.ref m)], (hput h48 q 23 (.inl (.int x49))), 0, 0)))
  have o52 : hget (hput h48 q 23 (.inl (.int x49))) m 24 = some (.inl (.ref (m + 23))) := (show hget (hput h48 q 23 (.inl (.int x49))) m 24 = hget h m 24 from (hget_put_ne (by omega)).trans ((F48 _ _ (by omega)).trans ((F43 _ _ (by omega)).trans ((F38 _ _ (by omega)).trans ((F33 _ _ (by omega)).trans ((F28 _ _ (by omega)).trans ((hget_put_ne (by omega)).trans ((F20 _ _ (by omega)).trans ((hget_put_ne (by omega)).trans ((hget_put_ne (by omega)).trans ((hget_put_ne (by omega)).trans ((hget_put_ne (by omega)).trans ((hget_put_ne (by omega)).trans ((hget_put_ne (by omega)).trans ((hget_put_ne (by omega)).trans (rfl)))))))))))))))).trans (laym.1 (24, 23, 37) (by decide +kernel)).1
  have t52 : T[m + 23]? = some 37 := (laym.1 (24, 23, 37) (by decide +kernel)).2
  refine g_getf HW rfl ok50.1 hq_m rfl o52 ?_
  refine zrn_ok HW 1 (zB_iff.mpr (?_ : G (143, [(0, .inl (.ref q)), (1, .inl (.ref m))], [.inl (.ref q), .inl (.ref (m + 23))], (hput h48 q 23 (.inl (.int x49))), 0, 0)))
  have o54 : hget (hput h48 q 23 (.inl (.int x49))) q 24 = some (.inl (.ref (q + 23))) := (show hget (hput h48 q 23 (.inl (.int x49))) q 24 = hget h q 24 from (hget_put_ne (by omega)).trans ((F48 _ _ (by omega)).trans ((F43 _ _ (by omega)).trans ((F38 _ _ (by omega)).trans ((F33 _ _ (by omega)).trans ((F28 _ _ (by omega)).trans ((hget_put_ne (by omega)).trans ((F20 _ _ (by omega)).trans ((hget_put_ne (by omega)).trans ((hget_put_ne (by omega)).trans ((hget_put_ne (by omega)).trans ((hget_put_ne (by omega)).trans ((hget_put_ne (by omega)).trans ((hget_put_ne (by omega)).trans ((hget_put_ne (by omega)).trans (rfl)))))))))))))))).trans (lay.1 (24, 23, 37) (by decide +kernel)).1
  have t54 : T[q + 23]? = some 37 := (lay.1 (24, 23, 37) (by decide +kernel)).2
  refine g_getf HW rfl ok50.1 hq_q rfl o54 ?_
  refine g_callS (b := 0) (E' := ze_X5_over) HW (Or.inl rfl) rfl rfl (Nat.le_of_ble_eq_true rfl) (Nat.le_of_ble_eq_true rfl) (Nat.le_of_ble_eq_true rfl) (Nat.le_of_ble_eq_true rfl) (c_over ok50 t52 t54 (by omega) rfl (by decide) (fun _ => rfl) rfl (fun h55 ok55 F55 C55 => zB_iff.mpr ?_))
  show G (149, [(0, .inl (.ref q)), (1, .inl (.ref m))], [], h55, 0, 0)
  refine zrn_ok HW 6 (zB_iff.mpr (?_ : G (157, [(2, .inl (.int (0 : Int32))), (0, .inl (.ref q)), (1, .inl (.ref m))], [.inl (.ref m)], h55, 0, 0)))
  have o57 : hget h55 m 25 = some (.inl (.ref (m + 24))) := (show hget h55 m 25 = hget h m 25 from (F55 _ _ (by omega)).trans ((hget_put_ne (by omega)).trans ((F48 _ _ (by omega)).trans ((F43 _ _ (by omega)).trans ((F38 _ _ (by omega)).trans ((F33 _ _ (by omega)).trans ((F28 _ _ (by omega)).trans ((hget_put_ne (by omega)).trans ((F20 _ _ (by omega)).trans ((hget_put_ne (by omega)).trans ((hget_put_ne (by omega)).trans ((hget_put_ne (by omega)).trans ((hget_put_ne (by omega)).trans ((hget_put_ne (by omega)).trans ((hget_put_ne (by omega)).trans ((hget_put_ne (by omega)).trans (rfl))))))))))))))))).trans (laym.1 (25, 24, 38) (by decide +kernel)).1
  have t57 : T[m + 24]? = some 38 := (laym.1 (25, 24, 38) (by decide +kernel)).2
  refine g_getf HW rfl ok55.1 hq_m rfl o57 ?_
  refine zrn_ok HW 1 (zB_iff.mpr (?_ : G (161, [(2, .inl (.int (0 : Int32))), (0, .inl (.ref q)), (1, .inl (.ref m))], [.inl (.int (0 : Int32)), .inl (.ref (m + 24))], h55, 0, 0)))
  have p58 : hget h55 (m + 24) 0 = some (.inl (.ref (m + (25 + 0)))) := (show hget h55 (m + 24) 0 = hget h (m + 24) 0 from (F55 _ _ (by omega)).trans ((hget_put_ne (by omega)).trans ((F48 _ _ (by omega)).trans ((F43 _ _ (by omega)).trans ((F38 _ _ (by omega)).trans ((F33 _ _ (by omega)).trans ((F28 _ _ (by omega)).trans ((hget_put_ne (by omega)).trans ((F20 _ _ (by omega)).trans ((hget_put_ne (by omega)).trans ((hget_put_ne (by omega)).trans ((hget_put_ne (by omega)).trans ((hget_put_ne (by omega)).trans ((hget_put_ne (by omega)).trans ((hget_put_ne (by omega)).trans ((hget_put_ne (by omega)).trans (rfl))))))))))))))))).trans (laym.2.2 0 (by decide)).1
  have u58 : T[m + (25 + 0)]? = some 39 := (laym.2.2 0 (by decide)).2
  refine g_aald HW rfl ok55.1 t57 ⟨by decide, by decide⟩ (by decide) p58 ?_
  refine zrn_ok HW 1 (zB_iff.mpr (?_ : G (163, [(2, .inl (.int (0 : Int32))), (0, .inl (.ref q)), (1, .inl (.ref m))], [.inl (.ref q), .inl (.ref (m + (25 + 0)))], h55, 0, 0)))
  have o60 : hget h55 q 25 = some (.inl (.ref (q + 24))) := (show hget h55 q 25 = hget h q 25 from (F55 _ _ (by omega)).trans ((hget_put_ne (by omega)).trans ((F48 _ _ (by omega)).trans ((F43 _ _ (by omega)).trans ((F38 _ _ (by omega)).trans ((F33 _ _ (by omega)).trans ((F28 _ _ (by omega)).trans ((hget_put_ne (by omega)).trans ((F20 _ _ (by omega)).trans ((hget_put_ne (by omega)).trans ((hget_put_ne (by omega)).trans ((hget_put_ne (by omega)).trans ((hget_put_ne (by omega)).trans ((hget_put_ne (by omega)).trans ((hget_put_ne (by omega)).trans ((hget_put_ne (by omega)).trans (rfl))))))))))))))))).trans (lay.1 (25, 24, 38) (by decide +kernel)).1
  have t60 : T[q + 24]? = some 38 := (lay.1 (25, 24, 38) (by decide +kernel)).2
  refine g_getf HW rfl ok55.1 hq_q rfl o60 ?_
  refine zrn_ok HW 1 (zB_iff.mpr (?_ : G (167, [(2, .inl (.int (0 : Int32))), (0, .inl (.ref q)), (1, .inl (.ref m))], [.inl (.int (0 : Int32)), .inl (.ref (q + 24)), .inl (.ref (m + (25 + 0)))], h55, 0, 0)))
  have p61 : hget h55 (q + 24) 0 = some (.inl (.ref (q + (25 + 0)))) := (show hget h55 (q + 24) 0 = hget h (q + 24) 0 from (F55 _ _ (by omega)).trans ((hget_put_ne (by omega)).trans ((F48 _ _ (by omega)).trans ((F43 _ _ (by omega)).trans ((F38 _ _ (by omega)).trans ((F33 _ _ (by omega)).trans ((F28 _ _ (by omega)).trans ((hget_put_ne (by omega)).trans ((F20 _ _ (by omega)).trans ((hget_put_ne (by omega)).trans ((hget_put_ne (by omega)).trans ((hget_put_ne (by omega)).trans ((hget_put_ne (by omega)).trans ((hget_put_ne (by omega)).trans ((hget_put_ne (by omega)).trans ((hget_put_ne (by omega)).trans (rfl))))))))))))))))).trans (lay.2.2 0 (by decide)).1
  have u61 : T[q + (25 + 0)]? = some 39 := (lay.2.2 0 (by decide)).2
  refine g_aald HW rfl ok55.1 t60 ⟨by decide, by decide⟩ (by decide) p61 ?_
  refine g_callS (b := 0) (E' := ze_X5_over) HW (Or.inl rfl) rfl rfl (Nat.le_of_ble_eq_true rfl) (Nat.le_of_ble_eq_true rfl) (Nat.le_of_ble_eq_true rfl) (Nat.le_of_ble_eq_true rfl) (c_over ok55 u58 u61 (by omega) rfl (by decide) (fun _ => rfl) rfl (fun h62 ok62 F62 C62 => zB_iff.mpr ?_))
  show G (171, [(2, .inl (.int (0 : Int32))), (0, .inl (.ref q)), (1, .inl (.ref m))], [], h62, 0, 0)
  refine zrn_ok HW 6 (zB_iff.mpr (?_ : G (157, [(2, .inl (.int (1 : Int32))), (0, .inl (.ref q)), (1, .inl (.ref m))], [.inl (.ref m)], h62, 0, 0)))
  have o64 : hget h62 m 25 = some (.inl (.ref (m + 24))) := (show hget h62 m 25 = hget h m 25 from (F62 _ _ (by omega)).trans ((F55 _ _ (by omega)).trans ((hget_put_ne (by omega)).trans ((F48 _ _ (by omega)).trans ((F43 _ _ (by omega)).trans ((F38 _ _ (by omega)).trans ((F33 _ _ (by omega)).trans ((F28 _ _ (by omega)).trans ((hget_put_ne (by omega)).trans ((F20 _ _ (by omega)).trans ((hget_put_ne (by omega)).trans ((hget_put_ne (by omega)).trans ((hget_put_ne (by omega)).trans ((hget_put_ne (by omega)).trans ((hget_put_ne (by omega)).trans ((hget_put_ne (by omega)).trans ((hget_put_ne (by omega)).trans (rfl)))))))))))))))))).trans (laym.1 (25, 24, 38) (by decide +kernel)).1
  have t64 : T[m + 24]? = some 38 := (laym.1 (25, 24, 38) (by decide +kernel)).2
  refine g_getf HW rfl ok62.1 hq_m rfl o64 ?_
  refine zrn_ok HW 1 (zB_iff.mpr (?_ : G (161, [(2, .inl (.int (1 : Int32))), (0, .inl (.ref q)), (1, .inl (.ref m))], [.inl (.int (1 : Int32)), .inl (.ref (m + 24))], h62, 0, 0)))
  have p65 : hget h62 (m + 24) 1 = some (.inl (.ref (m + (25 + 1)))) := (show hget h62 (m + 24) 1 = hget h (m + 24) 1 from (F62 _ _ (by omega)).trans ((F55 _ _ (by omega)).trans ((hget_put_ne (by omega)).trans ((F48 _ _ (by omega)).trans ((F43 _ _ (by omega)).trans ((F38 _ _ (by omega)).trans ((F33 _ _ (by omega)).trans ((F28 _ _ (by omega)).trans ((hget_put_ne (by omega)).trans ((F20 _ _ (by omega)).trans ((hget_put_ne (by omega)).trans ((hget_put_ne (by omega)).trans ((hget_put_ne (by omega)).trans ((hget_put_ne (by omega)).trans ((hget_put_ne (by omega)).trans ((hget_put_ne (by omega)).trans ((hget_put_ne (by omega)).trans (rfl)))))))))))))))))).trans (laym.2.2 1 (by decide)).1
  have u65 : T[m + (25 + 1)]? = some 39 := (laym.2.2 1 (by decide)).2
  refine g_aald HW rfl ok62.1 t64 ⟨by decide, by decide⟩ (by decide) p65 ?_
  refine zrn_ok HW 1 (zB_iff.mpr (?_ : G (163, [(2, .inl (.int (1 : Int32))), (0, .inl (.ref q)), (1, .inl (.ref m))], [.inl (.ref q), .inl (.ref (m + (25 + 1)))], h62, 0, 0)))
  have o67 : hget h62 q 25 = some (.inl (.ref (q + 24))) := (show hget h62 q 25 = hget h q 25 from (F62 _ _ (by omega)).trans ((F55 _ _ (by omega)).trans ((hget_put_ne (by omega)).trans ((F48 _ _ (by omega)).trans ((F43 _ _ (by omega)).trans ((F38 _ _ (by omega)).trans ((F33 _ _ (by omega)).trans ((F28 _ _ (by omega)).trans ((hget_put_ne (by omega)).trans ((F20 _ _ (by omega)).trans ((hget_put_ne (by omega)).trans ((hget_put_ne (by omega)).trans ((hget_put_ne (by omega)).trans ((hget_put_ne (by omega)).trans ((hget_put_ne (by omega)).trans ((hget_put_ne (by omega)).trans ((hget_put_ne (by omega)).trans (rfl)))))))))))))))))).trans (lay.1 (25, 24, 38) (by decide +kernel)).1
  have t67 : T[q + 24]? = some 38 := (lay.1 (25, 24, 38) (by decide +kernel)).2
  refine g_getf HW rfl ok62.1 hq_q rfl o67 ?_
  refine zrn_ok HW 1 (zB_iff.mpr (?_ : G (167, [(2, .inl (.int (1 : Int32))), (0, .inl (.ref q)), (1, .inl (.ref m))], [.inl (.int (1 : Int32)), .inl (.ref (q + 24)), .inl (.ref (m + (25 + 1)))], h62, 0, 0)))
  have p68 : hget h62 (q + 24) 1 = some (.inl (.ref (q + (25 + 1)))) := (show hget h62 (q + 24) 1 = hget h (q + 24) 1 from (F62 _ _ (by omega)).trans ((F55 _ _ (by omega)).trans ((hget_put_ne (by omega)).trans ((F48 _ _ (by omega)).trans ((F43 _ _ (by omega)).trans ((F38 _ _ (by omega)).trans ((F33 _ _ (by omega)).trans ((F28 _ _ (by omega)).trans ((hget_put_ne (by omega)).trans ((F20 _ _ (by omega)).trans ((hget_put_ne (by omega)).trans ((hget_put_ne (by omega)).trans ((hget_put_ne (by omega)).trans ((hget_put_ne (by omega)).trans ((hget_put_ne (by omega)).trans ((hget_put_ne (by omega)).trans ((hget_put_ne (by omega)).trans (rfl)))))))))))))))))).trans (lay.2.2 1 (by decide)).1
  have u68 : T[q + (25 + 1)]? = some 39 := (lay.2.2 1 (by decide)).2
  refine g_aald HW rfl ok62.1 t67 ⟨by decide, by decide⟩ (by decide) p68 ?_
  refine g_callS (b := 0) (E' := ze_X5_over) HW (Or.inl rfl) rfl rfl (Nat.le_of_ble_eq_true rfl) (Nat.le_of_ble_eq_true rfl) (Nat.le_of_ble_eq_true rfl) (Nat.le_of_ble_eq_true rfl) (c_over ok62 u65 u68 (by omega) rfl (by decide) (fun _ => rfl) rfl (fun h69 ok69 F69 C69 => zB_iff.mpr ?_))
  show G (171, [(2, .inl (.int (1 : Int32))), (0, .inl (.ref q)), (1, .inl (.ref m))], [], h69, 0, 0)
  refine zrn_ok HW 6 (zB_iff.mpr (?_ : G (157, [(2, .inl (.int (2 : Int32))), (0, .inl (.ref q)), (1, .inl (.ref m))], [.inl (.ref m)], h69, 0, 0)))
  have o71 : hget h69 m 25 = some (.inl (.ref (m + 24))) := (show hget h69 m 25 = hget h m 25 from (F69 _ _ (by omega)).trans ((F62 _ _ (by omega)).trans ((F55 _ _ (by omega)).trans ((hget_put_ne (by omega)).trans ((F48 _ _ (by omega)).trans ((F43 _ _ (by omega)).trans ((F38 _ _ (by omega)).trans ((F33 _ _ (by omega)).trans ((F28 _ _ (by omega)).trans ((hget_put_ne (by omega)).trans ((F20 _ _ (by omega)).trans ((hget_put_ne (by omega)).trans ((hget_put_ne (by omega)).trans ((hget_put_ne (by omega)).trans ((hget_put_ne (by omega)).trans ((hget_put_ne (by omega)).trans ((hget_put_ne (by omega)).trans ((hget_put_ne (by omega)).trans (rfl))))))))))))))))))).trans (laym.1 (25, 24, 38) (by decide +kernel)).1
  have t71 : T[m + 24]? = some 38 := (laym.1 (25, 24, 38) (by decide +kernel)).2
  refine g_getf HW rfl ok69.1 hq_m rfl o71 ?_
  refine zrn_ok HW 1 (zB_iff.mpr (?_ : G (161, [(2, .inl (.int (2 : Int32))), (0, .inl (.ref q)), (1, .inl (.ref m))], [.inl (.int (2 : Int32)), .inl (.ref (m + 24))], h69, 0, 0)))
  have p72 : hget h69 (m + 24) 2 = some (.inl (.ref (m + (25 + 2)))) := (show hget h69 (m + 24) 2 = hget h (m + 24) 2 from (F69 _ _ (by omega)).trans ((F62 _ _ (by omega)).trans ((F55 _ _ (by omega)).trans ((hget_put_ne (by omega)).trans ((F48 _ _ (by omega)).trans ((F43 _ _ (by omega)).trans ((F38 _ _ (by omega)).trans ((F33 _ _ (by omega)).trans ((F28 _ _ (by omega)).trans ((hget_put_ne (by omega)).trans ((F20 _ _ (by omega)).trans ((hget_put_ne (by omega)).trans ((hget_put_ne (by omega)).trans ((hget_put_ne (by omega)).trans ((hget_put_ne (by omega)).trans ((hget_put_ne (by omega)).trans ((hget_put_ne (by omega)).trans ((hget_put_ne (by omega)).trans (rfl))))))))))))))))))).trans (laym.2.2 2 (by decide)).1
  have u72 : T[m + (25 + 2)]? = some 39 := (laym.2.2 2 (by decide)).2
  refine g_aald HW rfl ok69.1 t71 ⟨by decide, by decide⟩ (by decide) p72 ?_
  refine zrn_ok HW 1 (zB_iff.mpr (?_ : G (163, [(2, .inl (.int (2 : Int32))), (0, .inl (.ref q)), (1, .inl (.ref m))], [.inl (.ref q), .inl (.ref (m + (25 + 2)))], h69, 0, 0)))
  have o74 : hget h69 q 25 = some (.inl (.ref (q + 24))) := (show hget h69 q 25 = hget h q 25 from (F69 _ _ (by omega)).trans ((F62 _ _ (by omega)).trans ((F55 _ _ (by omega)).trans ((hget_put_ne (by omega)).trans ((F48 _ _ (by omega)).trans ((F43 _ _ (by omega)).trans ((F38 _ _ (by omega)).trans ((F33 _ _ (by omega)).trans ((F28 _ _ (by omega)).trans ((hget_put_ne (by omega)).trans ((F20 _ _ (by omega)).trans ((hget_put_ne (by omega)).trans ((hget_put_ne (by omega)).trans ((hget_put_ne (by omega)).trans ((hget_put_ne (by omega)).trans ((hget_put_ne (by omega)).trans ((hget_put_ne (by omega)).trans ((hget_put_ne (by omega)).trans (rfl))))))))))))))))))).trans (lay.1 (25, 24, 38) (by decide +kernel)).1
  have t74 : T[q + 24]? = some 38 := (lay.1 (25, 24, 38) (by decide +kernel)).2
  refine g_getf HW rfl ok69.1 hq_q rfl o74 ?_
  refine zrn_ok HW 1 (zB_iff.mpr (?_ : G (167, [(2, .inl (.int (2 : Int32))), (0, .inl (.ref q)), (1, .inl (.ref m))], [.inl (.int (2 : Int32)), .inl (.ref (q + 24)), .inl (.ref (m + (25 + 2)))], h69, 0, 0)))
  have p75 : hget h69 (q + 24) 2 = some (.inl (.ref (q + (25 + 2)))) := (show hget h69 (q + 24) 2 = hget h (q + 24) 2 from (F69 _ _ (by omega)).trans ((F62 _ _ (by omega)).trans ((F55 _ _ (by omega)).trans ((hget_put_ne (by omega)).trans ((F48 _ _ (by omega)).trans ((F43 _ _ (by omega)).trans ((F38 _ _ (by omega)).trans ((F33 _ _ (by omega)).trans ((F28 _ _ (by omega)).trans ((hget_put_ne (by omega)).trans ((F20 _ _ (by omega)).trans ((hget_put_ne (by omega)).trans ((hget_put_ne (by omega)).trans ((hget_put_ne (by omega)).trans ((hget_put_ne (by omega)).trans ((hget_put_ne (by omega)).trans ((hget_put_ne (by omega)).trans ((hget_put_ne (by omega)).trans (rfl))))))))))))))))))).trans (lay.2.2 2 (by decide)).1
  have u75 : T[q + (25 + 2)]? = some 39 := (lay.2.2 2 (by decide)).2
  refine g_aald HW rfl ok69.1 t74 ⟨by decide, by decide⟩ (by decide) p75 ?_
  refine g_callS (b := 0) (E' := ze_X5_over) HW (Or.inl rfl) rfl rfl (Nat.le_of_ble_eq_true rfl) (Nat.le_of_ble_eq_true rfl) (Nat.le_of_ble_eq_true rfl) (Nat.le_of_ble_eq_true rfl) (c_over ok69 u72 u75 (by omega) rfl (by decide) (fun _ => rfl) rfl (fun h76 ok76 F76 C76 => zB_iff.mpr ?_))
  show G (171, [(2, .inl (.int (2 : Int32))), (0, .inl (.ref q)), (1, .inl (.ref m))], [], h76, 0, 0)
  refine zrn_ok HW 6 (zB_iff.mpr (?_ : G (157, [(2, .inl (.int (3 : Int32))), (0, .inl (.ref q)), (1, .inl (.ref m))], [.inl (.ref m)], h76, 0, 0)))
  have o78 : hget h76 m 25 = some (.inl (.ref (m + 24))) := (show hget h76 m 25 = hget h m 25 from (F76 _ _ (by omega)).trans ((F69 _ _ (by omega)).trans ((F62 _ _ (by omega)).trans ((F55 _ _ (by omega)).trans ((hget_put_ne (by omega)).trans ((F48 _ _ (by omega)).trans ((F43 _ _ (by omega)).trans ((F38 _ _ (by omega)).trans ((F33 _ _ (by omega)).trans ((F28 _ _ (by omega)).trans ((hget_put_ne (by omega)).trans ((F20 _ _ (by omega)).trans ((hget_put_ne (by omega)).trans ((hget_put_ne (by omega)).trans ((hget_put_ne (by omega)).trans ((hget_put_ne (by omega)).trans ((hget_put_ne (by omega)).trans ((hget_put_ne (by omega)).trans ((hget_put_ne (by omega)).trans (rfl)))))))))))))))))))).trans (laym.1 (25, 24, 38) (by decide +kernel)).1
  have t78 : T[m + 24]? = some 38 := (laym.1 (25, 24, 38) (by decide +kernel)).2
  refine g_getf HW rfl ok76.1 hq_m rfl o78 ?_
  refine zrn_ok HW 1 (zB_iff.mpr (?_ : G (161, [(2, .inl (.int (3 : Int32))), (0, .inl (.ref q)), (1, .inl (.ref m))], [.inl (.int (3 : Int32)), .inl (.ref (m + 24))], h76, 0, 0)))
  have p79 : hget h76 (m + 24) 3 = some (.inl (.ref (m + (25 + 3)))) := (show hget h76 (m + 24) 3 = hget h (m + 24) 3 from (F76 _ _ (by omega)).trans ((F69 _ _ (by omega)).trans ((F62 _ _ (by omega)).trans ((F55 _ _ (by omega)).trans ((hget_put_ne (by omega)).trans ((F48 _ _ (by omega)).trans ((F43 _ _ (by omega)).trans ((F38 _ _ (by omega)).trans ((F33 _ _ (by omega)).trans ((F28 _ _ (by omega)).trans ((hget_put_ne (by omega)).trans ((F20 _ _ (by omega)).trans ((hget_put_ne (by omega)).trans ((hget_put_ne (by omega)).trans ((hget_put_ne (by omega)).trans ((hget_put_ne (by omega)).trans ((hget_put_ne (by omega)).trans ((hget_put_ne (by omega)).trans ((hget_put_ne (by omega)).trans (rfl)))))))))))))))))))).trans (laym.2.2 3 (by decide)).1
  have u79 : T[m + (25 + 3)]? = some 39 := (laym.2.2 3 (by decide)).2
  refine g_aald HW rfl ok76.1 t78 ⟨by decide, by decide⟩ (by decide) p79 ?_
  refine zrn_ok HW 1 (zB_iff.mpr (?_ : G (163, [(2, .inl (.int (3 : Int32))), (0, .inl (.ref q)), (1, .inl (.ref m))], [.inl (.ref q), .inl (.ref (m + (25 + 3)))], h76, 0, 0)))
  have o81 : hget h76 q 25 = some (.inl (.ref (q + 24))) := (show hget h76 q 25 = hget h q 25 from (F76 _ _ (by omega)).trans ((F69 _ _ (by omega)).trans ((F62 _ _ (by omega)).trans ((F55 _ _ (by omega)).trans ((hget_put_ne (by omega)).trans ((F48 _ _ (by omega)).trans ((F43 _ _ (by omega)).trans ((F38 _ _ (by omega)).trans ((F33 _ _ (by omega)).trans ((F28 _ _ (by omega)).trans ((hget_put_ne (by omega)).trans ((F20 _ _ (by omega)).trans ((hget_put_ne (by omega)).trans ((hget_put_ne (by omega)).trans ((hget_put_ne (by omega)).trans ((hget_put_ne (by omega)).trans ((hget_put_ne (by omega)).trans ((hget_put_ne (by omega)).trans ((hget_put_ne (by omega)).trans (rfl)))))))))))))))))))).trans (lay.1 (25, 24, 38) (by decide +kernel)).1
  have t81 : T[q + 24]? = some 38 := (lay.1 (25, 24, 38) (by decide +kernel)).2
  refine g_getf HW rfl ok76.1 hq_q rfl o81 ?_
  refine zrn_ok HW 1 (zB_iff.mpr (?_ : G (167, [(2, .inl (.int (3 : Int32))), (0, .inl (.ref q)), (1, .inl (.ref m))], [.inl (.int (3 : Int32)), .inl (.ref (q + 24)), .inl (.ref (m + (25 + 3)))], h76, 0, 0)))
  have p82 : hget h76 (q + 24) 3 = some (.inl (.ref (q + (25 + 3)))) := (show hget h76 (q + 24) 3 = hget h (q + 24) 3 from (F76 _ _ (by omega)).trans ((F69 _ _ (by omega)).trans ((F62 _ _ (by omega)).trans ((F55 _ _ (by omega)).trans ((hget_put_ne (by omega)).trans ((F48 _ _ (by omega)).trans ((F43 _ _ (by omega)).trans ((F38 _ _ (by omega)).trans ((F33 _ _ (by omega)).trans ((F28 _ _ (by omega)).trans ((hget_put_ne (by omega)).trans ((F20 _ _ (by omega)).trans ((hget_put_ne (by omega)).trans ((hget_put_ne (by omega)).trans ((hget_put_ne (by omega)).trans ((hget_put_ne (by omega)).trans ((hget_put_ne (by omega)).trans ((hget_put_ne (by omega)).trans ((hget_put_ne (by omega)).trans (rfl)))))))))))))))))))).trans (lay.2.2 3 (by decide)).1
  have u82 : T[q + (25 + 3)]? = some 39 := (lay.2.2 3 (by decide)).2
  refine g_aald HW rfl ok76.1 t81 ⟨by decide, by decide⟩ (by decide) p82 ?_
  refine g_callS (b := 0) (E' := ze_X5_over) HW (Or.inl rfl) rfl rfl (Nat.le_of_ble_eq_true rfl) (Nat.le_of_ble_eq_true rfl) (Nat.le_of_ble_eq_true rfl) (Nat.le_of_ble_eq_true rfl) (c_over ok76 u79 u82 (by omega) rfl (by decide) (fun _ => rfl) rfl (fun h83 ok83 F83 C83 => zB_iff.mpr ?_))
  show G (171, [(2, .inl (.int (3 : Int32))), (0, .inl (.ref q)), (1, .inl (.ref m))], [], h83, 0, 0)
  refine zrn_ok HW 6 ?_
  have A17 : ∀ i : Nat, i < 61 → hget h83 (q + 17) i = hget h (m + 17) i := fun i hi0 => (show hget h83 (q + 17) i = hget h20 (q + 17) i from (F83 _ _ (by omega)).trans ((F76 _ _ (by omega)).trans ((F69 _ _ (by omega)).trans ((F62 _ _ (by omega)).trans ((F55 _ _ (by omega)).trans ((hget_put_ne (by omega)).trans ((F48 _ _ (by omega)).trans ((F43 _ _ (by omega)).trans ((F38 _ _ (by omega)).trans ((F33 _ _ (by omega)).trans ((F28 _ _ (by omega)).trans ((hget_put_ne (by omega)).trans (rfl))))))))))))).trans ((C20 i hi0).trans (show hget (hput (hput (hput (hput (hput (hput (hput h q 9 (.inl (.int m9))) q 10 (.inl (.int x4))) q 11 (.inl (.int x6))) q 12 (.inl (.int x8))) q 13 (.inl (.int x10))) q 14 (.inl (.int x12))) q 15 (.inl (.int x14))) (m + 17) i = hget h (m + 17) i from (hget_put_ne (by omega)).trans ((hget_put_ne (by omega)).trans ((hget_put_ne (by omega)).trans ((hget_put_ne (by omega)).trans ((hget_put_ne (by omega)).trans ((hget_put_ne (by omega)).trans ((hget_put_ne (by omega)).trans (rfl)))))))))
  have A19 : ∀ i : Nat, i < 8 → hget h83 (q + 19) i = hget h (m + 19) i := fun i hi0 => (show hget h83 (q + 19) i = hget h33 (q + 19) i from (F83 _ _ (by omega)).trans ((F76 _ _ (by omega)).trans ((F69 _ _ (by omega)).trans ((F62 _ _ (by omega)).trans ((F55 _ _ (by omega)).trans ((hget_put_ne (by omega)).trans ((F48 _ _ (by omega)).trans ((F43 _ _ (by omega)).trans ((F38 _ _ (by omega)).trans (rfl)))))))))).trans ((C33 i hi0).trans (show hget h28 (m + 19) i = hget h (m + 19) i from (F28 _ _ (by omega)).trans ((hget_put_ne (by omega)).trans ((F20 _ _ (by omega)).trans ((hget_put_ne (by omega)).trans ((hget_put_ne (by omega)).trans ((hget_put_ne (by omega)).trans ((hget_put_ne (by omega)).trans ((hget_put_ne (by omega)).trans ((hget_put_ne (by omega)).trans ((hget_put_ne (by omega)).trans (rfl))))))))))))
  have A22 : ∀ i : Nat, i < 8 → hget h83 (q + 22) i = hget h (m + 22) i := fun i hi0 => (show hget h83 (q + 22) i = hget h48 (q + 22) i from (F83 _ _ (by omega)).trans ((F76 _ _ (by omega)).trans ((F69 _ _ (by omega)).trans ((F62 _ _ (by omega)).trans ((F55 _ _ (by omega)).trans ((hget_put_ne (by omega)).trans (rfl))))))).trans ((C48 i hi0).trans (show hget h43 (m + 22) i = hget h (m + 22) i from (F43 _ _ (by omega)).trans ((F38 _ _ (by omega)).trans ((F33 _ _ (by omega)).trans ((F28 _ _ (by omega)).trans ((hget_put_ne (by omega)).trans ((F20 _ _ (by omega)).trans ((hget_put_ne (by omega)).trans ((hget_put_ne (by omega)).trans ((hget_put_ne (by omega)).trans ((hget_put_ne (by omega)).trans ((hget_put_ne (by omega)).trans ((hget_put_ne (by omega)).trans ((hget_put_ne (by omega)).trans (rfl)))))))))))))))
  obtain ⟨w9, hw9, -⟩ := hOK_get (i := 9) (T := T) (h := h) (q := q) ok.1 hq_q (by decide)
  have B9 : hi h83 q 9 = hi h m 9 := by rw [hi_eq (show hget h83 q 9 = hget (hput h q 9 (.inl (.int m9))) q 9 from (F83 _ _ (by omega)).trans ((F76 _ _ (by omega)).trans ((F69 _ _ (by omega)).trans ((F62 _ _ (by omega)).trans ((F55 _ _ (by omega)).trans ((hget_put_ne (by omega)).trans ((F48 _ _ (by omega)).trans ((F43 _ _ (by omega)).trans ((F38 _ _ (by omega)).trans ((F33 _ _ (by omega)).trans ((F28 _ _ (by omega)).trans ((hget_put_ne (by omega)).trans ((F20 _ _ (by omega)).trans ((hget_put_ne (by omega)).trans ((hget_put_ne (by omega)).trans ((hget_put_ne (by omega)).trans ((hget_put_ne (by omega)).trans ((hget_put_ne (by omega)).trans ((hget_put_ne (by omega)).trans (rfl)))))))))))))))))))), hi_put hw9, em9]
  obtain ⟨w17, hw17, -⟩ := hOK_get (i := 17) (T := T) (h := h20) (q := q) ok20.1 hq_q (by decide)
  have B17 : hi h83 q 17 = hi h m 17 := by rw [hi_eq (show hget h83 q 17 = hget (hput h20 q 17 (.inl (.int m17))) q 17 from (F83 _ _ (by omega)).trans ((F76 _ _ (by omega)).trans ((F69 _ _ (by omega)).trans ((F62 _ _ (by omega)).trans ((F55 _ _ (by omega)).trans ((hget_put_ne (by omega)).trans ((F48 _ _ (by omega)).trans ((F43 _ _ (by omega)).trans ((F38 _ _ (by omega)).trans ((F33 _ _ (by omega)).trans ((F28 _ _ (by omega)).trans (rfl)))))))))))), hi_put hw17, em17]
  have P28 : ∀ p i : Nat, T[p]? = some 28 → hget h83 p i = hget h p i := fun p i hp => by
    have n0 : p ≠ q := ty_ne hp hq_q (by decide)
    have n1 : ∀ o ∈ pOff, o.2.2 ≠ 28 → p ≠ q + o.2.1 := fun o ho hne => ty_ne hp (lay.1 o ho).2 (Ne.symm hne)
    have n17 : p ≠ q + 17 := n1 (16, 17, 31) (by decide +kernel) (by decide)
    have n18 : p ≠ q + 18 := n1 (18, 18, 32) (by decide +kernel) (by decide)
    have n19 : p ≠ q + 19 := n1 (19, 19, 33) (by decide +kernel) (by decide)
    have n20 : p ≠ q + 20 := n1 (20, 20, 34) (by decide +kernel) (by decide)
    have n21 : p ≠ q + 21 := n1 (21, 21, 35) (by decide +kernel) (by decide)
    have n22 : p ≠ q + 22 := n1 (22, 22, 36) (by decide +kernel) (by decide)
    have n23 : p ≠ q + 23 := n1 (24, 23, 37) (by decide +kernel) (by decide)
    have nr0 : p ≠ q + (25 + 0) := ty_ne hp (lay.2.2 0 (by decide)).2 (by decide)
    have nr1 : p ≠ q + (25 + 1) := ty_ne hp (lay.2.2 1 (by decide)).2 (by decide)
    have nr2 : p ≠ q + (25 + 2) := ty_ne hp (lay.2.2 2 (by decide)).2 (by decide)
    have nr3 : p ≠ q + (25 + 3) := ty_ne hp (lay.2.2 3 (by decide)).2 (by decide)
    exact (F83 _ _ (by omega)).trans ((F76 _ _ (by omega)).trans ((F69 _ _ (by omega)).trans ((F62 _ _ (by omega)).trans ((F55 _ _ (by omega)).trans ((hget_put_ne (by omega)).trans ((F48 _ _ (by omega)).trans ((F43 _ _ (by omega)).trans ((F38 _ _ (by omega)).trans ((F33 _ _ (by omega)).trans ((F28 _ _ (by omega)).trans ((hget_put_ne (by omega)).trans ((F20 _ _ (by omega)).trans ((hget_put_ne (by omega)).trans ((hget_put_ne (by omega)).trans ((hget_put_ne (by omega)).trans ((hget_put_ne (by omega)).trans ((hget_put_ne (by omega)).trans ((hget_put_ne (by omega)).trans ((hget_put_ne (by omega)).trans (rfl))))))))))))))))))))
  refine zret_v rfl (kk h83 ⟨ok83.1, ?_, ok83.2.2⟩ P28 (fun i => (F83 _ _ (by omega)).trans ((F76 _ _ (by omega)).trans ((F69 _ _ (by omega)).trans ((F62 _ _ (by omega)).trans ((F55 _ _ (by omega)).trans ((hget_put_ne (by omega)).trans ((F48 _ _ (by omega)).trans ((F43 _ _ (by omega)).trans ((F38 _ _ (by omega)).trans ((F33 _ _ (by omega)).trans ((F28 _ _ (by omega)).trans ((hget_put_ne (by omega)).trans ((F20 _ _ (by omega)).trans ((hget_put_ne (by omega)).trans ((hget_put_ne (by omega)).trans ((hget_put_ne (by omega)).trans ((hget_put_ne (by omega)).trans ((hget_put_ne (by omega)).trans ((hget_put_ne (by omega)).trans ((hget_put_ne (by omega)).trans (rfl))))))))))))))))))))))
  refine p_keep2 hq_q (by decide) (fun p σ i h1 h2 h3 => ?_) ?_ ok0.2.1
  · by_cases e0 : p = q
    · subst e0
      rw [hq_q] at h1
      cases h1
      have n : i ≠ 9 ∧ i ≠ 17 := ⟨fun e => h3 (Or.inl ⟨rfl, by decide, Or.inl e⟩), fun e => h3 (Or.inl ⟨rfl, by decide, Or.inr e⟩)⟩
      have nn : i ≠ 10 ∧ i ≠ 11 ∧ i ≠ 12 ∧ i ≠ 13 ∧ i ≠ 14 ∧ i ≠ 15 ∧ i ≠ 23 := ⟨fun e => (by subst e; cases h2), fun e => (by subst e; cases h2), fun e => (by subst e; cases h2), fun e => (by subst e; cases h2), fun e => (by subst e; cases h2), fun e => (by subst e; cases h2), fun e => (by subst e; cases h2)⟩
      exact (F83 _ _ (by omega)).trans ((F76 _ _ (by omega)).trans ((F69 _ _ (by omega)).trans ((F62 _ _ (by omega)).trans ((F55 _ _ (by omega)).trans ((hget_put_ne (by omega)).trans ((F48 _ _ (by omega)).trans ((F43 _ _ (by omega)).trans ((F38 _ _ (by omega)).trans ((F33 _ _ (by omega)).trans ((F28 _ _ (by omega)).trans ((hget_put_ne (by omega)).trans ((F20 _ _ (by omega)).trans ((hget_put_ne (by omega)).trans ((hget_put_ne (by omega)).trans ((hget_put_ne (by omega)).trans ((hget_put_ne (by omega)).trans ((hget_put_ne (by omega)).trans ((hget_put_ne (by omega)).trans ((hget_put_ne (by omega)).trans (rfl))))))))))))))))))))
    · have own : p ≠ q + 17 ∧ p ≠ q + 19 ∧ p ≠ q + 22 := ⟨fun e => h3 (Or.inr (Or.inl ⟨e, by subst e; rw [(lay.1 (16, 17, 31) (by decide +kernel)).2] at h1; cases h1; rfl⟩)), fun e => h3 (Or.inr (Or.inr (Or.inl ⟨e, by subst e; rw [(lay.1 (19, 19, 33) (by decide +kernel)).2] at h1; cases h1; rfl⟩))), fun e => h3 (Or.inr (Or.inr (Or.inr ⟨e, by subst e; rw [(lay.1 (22, 22, 36) (by decide +kernel)).2] at h1; cases h1; rfl⟩)))⟩
      have n18 : p ≠ q + 18 := fun e => by subst e; rw [(lay.1 (18, 18, 32) (by decide +kernel)).2] at h1; cases h1; cases h2
      have n20 : p ≠ q + 20 := fun e => by subst e; rw [(lay.1 (20, 20, 34) (by decide +kernel)).2] at h1; cases h1; cases h2
      have n21 : p ≠ q + 21 := fun e => by subst e; rw [(lay.1 (21, 21, 35) (by decide +kernel)).2] at h1; cases h1; cases h2
      have n23 : p ≠ q + 23 := fun e => by subst e; rw [(lay.1 (24, 23, 37) (by decide +kernel)).2] at h1; cases h1; cases h2
      have nr0 : p ≠ q + (25 + 0) := fun e => by subst e; rw [(lay.2.2 0 (by decide)).2] at h1; cases h1; cases h2
      have nr1 : p ≠ q + (25 + 1) := fun e => by subst e; rw [(lay.2.2 1 (by decide)).2] at h1; cases h1; cases h2
      have nr2 : p ≠ q + (25 + 2) := fun e => by subst e; rw [(lay.2.2 2 (by decide)).2] at h1; cases h1; cases h2
      have nr3 : p ≠ q + (25 + 3) := fun e => by subst e; rw [(lay.2.2 3 (by decide)).2] at h1; cases h1; cases h2
      exact (F83 _ _ (by omega)).trans ((F76 _ _ (by omega)).trans ((F69 _ _ (by omega)).trans ((F62 _ _ (by omega)).trans ((F55 _ _ (by omega)).trans ((hget_put_ne (by omega)).trans ((F48 _ _ (by omega)).trans ((F43 _ _ (by omega)).trans ((F38 _ _ (by omega)).trans ((F33 _ _ (by omega)).trans ((F28 _ _ (by omega)).trans ((hget_put_ne (by omega)).trans ((F20 _ _ (by omega)).trans ((hget_put_ne (by omega)).trans ((hget_put_ne (by omega)).trans ((hget_put_ne (by omega)).trans ((hget_put_ne (by omega)).trans ((hget_put_ne (by omega)).trans ((hget_put_ne (by omega)).trans ((hget_put_ne (by omega)).trans (rfl))))))))))))))))))))
  · intro t ht
    rw [B17] at ht
    have t8 : t < 8 := by omega
    have hj := hJm t ht
    rw [B9, hi_eq2 (A19 t t8), hi_eq2 (A22 t t8)]
    refine ⟨hj.1, fun h2 => ?_, fun u hu => ?_⟩
    · rw [hi_eq2 (A17 _ (by omega))]
      exact hj.2.1 h2
    · rw [hi_eq2 (A19 u (by omega))]
      exact hj.2.2 u hu
theorem c_takeFrom5 {P : pP} {N : Nat} {scr : List zV} {d : Nat} {T : List Nat} {h : zH} {q m : Nat} {post : Option zV → zH → Bool} (ok0 : wOK (zPhi P) N T h) (hq_q : T[q]? = some 5) (hq_m : T[m]? = some 6) (kk : ∀ h' : zH, wOK (zPhi P) N T h' → (∀ p i : Nat, T[p]? = some 28 → hget h' p i = hget h p i) → (∀ i, hget h' m i = hget h m i) → post none h' = true) : zD zprog scr (d + 2) 232 [.inl (.ref q), .inl (.ref m)] h post = true := by
  have ok : wOK (fun _ _ => True) N T h := ⟨ok0.1, trivial, ok0.2.2⟩
  have hst := hstT
  obtain ⟨lay, -⟩ := ok0.2.1.2.1 q 5 hq_q (Or.inl rfl)
  obtain ⟨laym, hJm⟩ := ok0.2.1.2.1 m 6 hq_m (Or.inr rfl)
  have ap := p_apart lay laym hq_q hq_m (by decide) (by decide) (by decide)
  refine zD_intro (E := ze_X5_takeFrom) rfl rfl (fun G HW => ?_)
  obtain ⟨m9, gm9, em9, lm9, um9⟩ := hi_val (i := 9) ok.1 hq_m (by decide) rfl
  have lm9 : (1 : Int) ≤ m9.toInt := lm9
  have um9 : m9.toInt ≤ (60 : Int) := um9
  obtain ⟨m17, gm17, em17, lm17, um17⟩ := hi_val (i := 17) ok.1 hq_m (by decide) rfl
  have lm17 : (0 : Int) ≤ m17.toInt := lm17
  have um17 : m17.toInt ≤ (8 : Int) := um17
  refine zrn_ok HW 2 (zB_iff.mpr (?_ : G (2, [(0, .inl (.ref q)), (1, .inl (.ref m))], [.inl (.ref m), .inl (.ref q)], h, 0, 0)))
  have g2 : hget h m 9 = some (.inl (.int m9)) := (show hget h m 9 = hget h m 9 from rfl).trans gm9
  refine g_getf HW rfl ok.1 hq_m rfl g2 ?_
  have ok3 : wOK (fun _ _ => True) N T (hput h q 9 (.inl (.int m9))) := ⟨hOK_put ok.1 hq_q ⟨_, rfl, (by show (1 : Int) ≤ _; omega), (by show _ ≤ (60 : Int); omega)⟩, trivial, by rw [hput_len]; exact ok.2.2⟩
  refine g_putf HW rfl ok.1 hq_q rfl (by decide) rfl ?_
  refine zrn_ok HW 2 (zB_iff.mpr (?_ : G (10, [(0, .inl (.ref q)), (1, .inl (.ref m))], [.inl (.ref m), .inl (.ref q)], (hput h q 9 (.inl (.int m9))), 0, 0)))
  obtain ⟨x4, g4, e4, l4, u4⟩ := hi_val (i := 10) ok3.1 hq_m (by decide) rfl
  have l4 : (2 : Int) ≤ x4.toInt := l4
  have u4 : x4.toInt ≤ (10 : Int) := u4
  refine g_getf HW rfl ok3.1 hq_m rfl g4 ?_
  have ok5 : wOK (fun _ _ => True) N T (hput (hput h q 9 (.inl (.int m9))) q 10 (.inl (.int x4))) := wOK_put hst ok3 hq_q rfl ⟨_, rfl, (by show (2 : Int) ≤ _; omega), (by show _ ≤ (10 : Int); omega)⟩
  refine g_putf HW rfl ok3.1 hq_q rfl (by decide) rfl ?_
  refine zrn_ok HW 2 (zB_iff.mpr (?_ : G (18, [(0, .inl (.ref q)), (1, .inl (.ref m))], [.inl (.ref m), .inl (.ref q)], (hput (hput h q 9 (.inl (.int m9))) q 10 (.inl (.int x4))), 0, 0)))
  obtain ⟨x6, g6, e6, l6, u6⟩ := hi_val (i := 11) ok5.1 hq_m (by decide) rfl
  have l6 : (1 : Int) ≤ x6.toInt := l6
  have u6 : x6.toInt ≤ (495 : Int) := u6
  refine g_getf HW rfl ok5.1 hq_m rfl g6 ?_
  have ok7 : wOK (fun _ _ => True) N T (hput (hput (hput h q 9 (.inl (.int m9))) q 10 (.inl (.int x4))) q 11 (.inl (.int x6))) := wOK_put hst ok5 hq_q rfl ⟨_, rfl, (by show (1 : Int) ≤ _; omega), (by show _ ≤ (495 : Int); omega)⟩
  refine g_putf HW rfl ok5.1 hq_q rfl (by decide) rfl ?_
  refine zrn_ok HW 2 (zB_iff.mpr (?_ : G (26, [(0, .inl (.ref q)), (1, .inl (.ref m))], [.inl (.ref m), .inl (.ref q)], (hput (hput (hput h q 9 (.inl (.int m9))) q 10 (.inl (.int x4))) q 11 (.inl (.int x6))), 0, 0)))
  obtain ⟨x8, g8, e8, l8, u8⟩ := hi_val (i := 12) ok7.1 hq_m (by decide) rfl
  have l8 : (1 : Int) ≤ x8.toInt := l8
  have u8 : x8.toInt ≤ (495 : Int) := u8
  refine g_getf HW rfl ok7.1 hq_m rfl g8 ?_
  have ok9 : wOK (fun _ _ => True) N T (hput (hput (hput (hput h q 9 (.inl (.int m9))) q 10 (.inl (.int x4))) q 11 (.inl (.int x6))) q 12 (.inl (.int x8))) := wOK_put hst ok7 hq_q rfl ⟨_, rfl, (by show (1 : Int) ≤ _; omega), (by show _ ≤ (495 : Int); omega)⟩
  refine g_putf HW rfl ok7.1 hq_q rfl (by decide) rfl ?_
  refine zrn_ok HW 2 (zB_iff.mpr (?_ : G (34, [(0, .inl (.ref q)), (1, .inl (.ref m))], [.inl (.ref m), .inl (.ref q)], (hput (hput (hput (hput h q 9 (.inl (.int m9))) q 10 (.inl (.int x4))) q 11 (.inl (.int x6))) q 12 (.inl (.int x8))), 0, 0)))
  obtain ⟨x10, g10, e10, l10, u10⟩ := hi_val (i := 13) ok9.1 hq_m (by decide) rfl
  have l10 : ((-2147483648) : Int) ≤ x10.toInt := l10
  have u10 : x10.toInt ≤ (2147483647 : Int) := u10
  refine g_getf HW rfl ok9.1 hq_m rfl g10 ?_
  have ok11 : wOK (fun _ _ => True) N T (hput (hput (hput (hput (hput h q 9 (.inl (.int m9))) q 10 (.inl (.int x4))) q 11 (.inl (.int x6))) q 12 (.inl (.int x8))) q 13 (.inl (.int x10))) := wOK_put hst ok9 hq_q rfl ⟨_, rfl, t_lo _, t_hi _⟩
  refine g_putf HW rfl ok9.1 hq_q rfl (by decide) rfl ?_
  refine zrn_ok HW 2 (zB_iff.mpr (?_ : G (42, [(0, .inl (.ref q)), (1, .inl (.ref m))], [.inl (.ref m), .inl (.ref q)], (hput (hput (hput (hput (hput h q 9 (.inl (.int m9))) q 10 (.inl (.int x4))) q 11 (.inl (.int x6))) q 12 (.inl (.int x8))) q 13 (.inl (.int x10))), 0, 0)))
  obtain ⟨x12, g12, e12, l12, u12⟩ := hi_val (i := 14) ok11.1 hq_m (by decide) rfl
  have l12 : ((-2147483648) : Int) ≤ x12.toInt := l12
  have u12 : x12.toInt ≤ (2147483647 : Int) := u12
  refine g_getf HW rfl ok11.1 hq_m rfl g12 ?_
  have ok13 : wOK (fun _ _ => True) N T (hput (hput (hput (hput (hput (hput h q 9 (.inl (.int m9))) q 10 (.inl (.int x4))) q 11 (.inl (.int x6))) q 12 (.inl (.int x8))) q 13 (.inl (.int x10))) q 14 (.inl (.int x12))) := wOK_put hst ok11 hq_q rfl ⟨_, rfl, t_lo _, t_hi _⟩
  refine g_putf HW rfl ok11.1 hq_q rfl (by decide) rfl ?_
  refine zrn_ok HW 2 (zB_iff.mpr (?_ : G (50, [(0, .inl (.ref q)), (1, .inl (.ref m))], [.inl (.ref m), .inl (.ref q)], (hput (hput (hput (hput (hput (hput h q 9 (.inl (.int m9))) q 10 (.inl (.int x4))) q 11 (.inl (.int x6))) q 12 (.inl (.int x8))) q 13 (.inl (.int x10))) q 14 (.inl (.int x12))), 0, 0)))
  obtain ⟨x14, g14, e14, l14, u14⟩ := hi_val (i := 15) ok13.1 hq_m (by decide) rfl
  have l14 : ((-2147483648) : Int) ≤ x14.toInt := l14
  have u14 : x14.toInt ≤ (2147483647 : Int) := u14
  refine g_getf HW rfl ok13.1 hq_m rfl g14 ?_
  have ok15 : wOK (fun _ _ => True) N T (hput (hput (hput (hput (hput (hput (hput h q 9 (.inl (.int m9))) q 10 (.inl (.int x4))) q 11 (.inl (.int x6))) q 12 (.inl (.int x8))) q 13 (.inl (.int x10))) q 14 (.inl (.int x12))) q 15 (.inl (.int x14))) := wOK_put hst ok13 hq_q rfl ⟨_, rfl, t_lo _, t_hi _⟩
  refine g_putf HW rfl ok13.1 hq_q rfl (by decide) rfl ?_
  refine zrn_ok HW 1 (zB_iff.mpr (?_ : G (57, [(0, .inl (.ref q)), (1, .inl (.ref m))], [.inl (.ref m)], (hput (hput (hput (hput (hput (hput (hput h q 9 (.inl (.int m9))) q 10 (.inl (.int x4))) q 11 (.inl (.int x6))) q 12 (.inl (.int x8))) q 13 (.inl (.int x10))) q 14 (.inl (.int x12))) q 15 (.inl (.int x14))), 0, 0)))
  have o17 : hget (hput (hput (hput (hput (hput (hput (hput h q 9 (.inl (.int m9))) q 10 (.inl (.int x4))) q 11 (.inl (.int x6))) q 12 (.inl (.int x8))) q 13 (.inl (.int x10))) q 14 (.inl (.int x12))) q 15 (.inl (.int x14))) m 16 = some (.inl (.ref (m + 17))) := (show hget (hput (hput (hput (hput (hput (hput (hput h q 9 (.inl (.int m9))) q 10 (.inl (.int x4))) q 11 (.inl (.int x6))) q 12 (.inl (.int x8))) q 13 (.inl (.int x10))) q 14 (.inl (.int x12))) q 15 (.inl (.int x14))) m 16 = hget h m 16 from (hget_put_ne (by omega)).trans ((hget_put_ne (by omega)).trans ((hget_put_ne (by omega)).trans ((hget_put_ne (by omega)).trans ((hget_put_ne (by omega)).trans ((hget_put_ne (by omega)).trans ((hget_put_ne (by omega)).trans (rfl)))))))).trans (laym.1 (16, 17, 31) (by decide +kernel)).1
  have t17 : T[m + 17]? = some 31 := (laym.1 (16, 17, 31) (by decide +kernel)).2
  refine g_getf HW rfl ok15.1 hq_m rfl o17 ?_
  refine zrn_ok HW 1 (zB_iff.mpr (?_ : G (61, [(0, .inl (.ref q)), (1, .inl (.ref m))], [.inl (.ref q), .inl (.ref (m + 17))], (hput (hput (hput (hput (hput (hput (hput h q 9 (.inl (.int m9))) q 10 (.inl (.int x4))) q 11 (.inl (.int x6))) q 12 (.inl (.int x8))) q 13 (.inl (.int x10))) q 14 (.inl (.int x12))) q 15 (.inl (.int x14))), 0, 0)))
  have o19 : hget (hput (hput (hput (hput (hput (hput (hput h q 9 (.inl (.int m9))) q 10 (.inl (.int x4))) q 11 (.inl (.int x6))) q 12 (.inl (.int x8))) q 13 (.inl (.int x10))) q 14 (.inl (.int x12))) q 15 (.inl (.int x14))) q 16 = some (.inl (.ref (q + 17))) := (show hget (hput (hput (hput (hput (hput (hput (hput h q 9 (.inl (.int m9))) q 10 (.inl (.int x4))) q 11 (.inl (.int x6))) q 12 (.inl (.int x8))) q 13 (.inl (.int x10))) q 14 (.inl (.int x12))) q 15 (.inl (.int x14))) q 16 = hget h q 16 from (hget_put_ne (by omega)).trans ((hget_put_ne (by omega)).trans ((hget_put_ne (by omega)).trans ((hget_put_ne (by omega)).trans ((hget_put_ne (by omega)).trans ((hget_put_ne (by omega)).trans ((hget_put_ne (by omega)).trans (rfl)))))))).trans (lay.1 (16, 17, 31) (by decide +kernel)).1
  have t19 : T[q + 17]? = some 31 := (lay.1 (16, 17, 31) (by decide +kernel)).2
  refine g_getf HW rfl ok15.1 hq_q rfl o19 ?_
  refine g_callS (b := 0) (E' := ze_X5_over) HW (Or.inl rfl) rfl rfl (Nat.le_of_ble_eq_true rfl) (Nat.le_of_ble_eq_true rfl) (Nat.le_of_ble_eq_true rfl) (Nat.le_of_ble_eq_true rfl) (c_over ok15 t17 t19 (by omega) rfl (by decide) (fun _ => rfl) rfl (fun h20 ok20 F20 C20 => zB_iff.mpr ?_))
  show G (67, [(0, .inl (.ref q)), (1, .inl (.ref m))], [], h20, 0, 0)
  refine zrn_ok HW 2 (zB_iff.mpr (?_ : G (69, [(0, .inl (.ref q)), (1, .inl (.ref m))], [.inl (.ref m), .inl (.ref q)], h20, 0, 0)))
  have g22 : hget h20 m 17 = some (.inl (.int m17)) := (show hget h20 m 17 = hget h m 17 from (F20 _ _ (by omega)).trans ((hget_put_ne (by omega)).trans ((hget_put_ne (by omega)).trans ((hget_put_ne (by omega)).trans ((hget_put_ne (by omega)).trans ((hget_put_ne (by omega)).trans ((hget_put_ne (by omega)).trans ((hget_put_ne (by omega)).trans (rfl))))))))).trans gm17
  refine g_getf HW rfl ok20.1 hq_m rfl g22 ?_
  have ok23 : wOK (fun _ _ => True) N T (hput h20 q 17 (.inl (.int m17))) := ⟨hOK_put ok20.1 hq_q ⟨_, rfl, (by show (0 : Int) ≤ _; omega), (by show _ ≤ (8 : Int); omega)⟩, trivial, by rw [hput_len]; exact ok20.2.2⟩
  refine g_putf HW rfl ok20.1 hq_q rfl (by decide) rfl ?_
  refine zrn_ok HW 1 (zB_iff.mpr (?_ : G (76, [(0, .inl (.ref q)), (1, .inl (.ref m))], [.inl (.ref m)], (hput h20 q 17 (.inl (.int m17))), 0, 0)))
  have o25 : hget (hput h20 q 17 (.inl (.int m17))) m 18 = some (.inl (.ref (m + 18))) := (show hget (hput h20 q 17 (.inl (.int m17))) m 18 = hget h m 18 from (hget_put_ne (by omega)).trans ((F20 _ _ (by omega)).trans ((hget_put_ne (by omega)).trans ((hget_put_ne (by omega)).trans ((hget_put_ne (by omega)).trans ((hget_put_ne (by omega)).trans ((hget_put_ne (by omega)).trans ((hget_put_ne (by omega)).trans ((hget_put_ne (by omega)).trans (rfl)))))))))).trans (laym.1 (18, 18, 32) (by decide +kernel)).1
  have t25 : T[m + 18]? = some 32 := (laym.1 (18, 18, 32) (by decide +kernel)).2
  refine g_getf HW rfl ok23.1 hq_m rfl o25 ?_
  refine zrn_ok HW 1 (zB_iff.mpr (?_ : G (80, [(0, .inl (.ref q)), (1, .inl (.ref m))], [.inl (.ref q), .inl (.ref (m + 18))], (hput h20 q 17 (.inl (.int m17))), 0, 0)))
  have o27 : hget (hput h20 q 17 (.inl (.int m17))) q 18 = some (.inl (.ref (q + 18))) := (show hget (hput h20 q 17 (.inl (.int m17))) q 18 = hget h q 18 from (hget_put_ne (by omega)).trans ((F20 _ _ (by omega)).trans ((hget_put_ne (by omega)).trans ((hget_put_ne (by omega)).trans ((hget_put_ne (by omega)).trans ((hget_put_ne (by omega)).trans ((hget_put_ne (by omega)).trans ((hget_put_ne (by omega)).trans ((hget_put_ne (by omega)).trans (rfl)))))))))).trans (lay.1 (18, 18, 32) (by decide +kernel)).1
  have t27 : T[q + 18]? = some 32 := (lay.1 (18, 18, 32) (by decide +kernel)).2
  refine g_getf HW rfl ok23.1 hq_q rfl o27 ?_
  refine g_callS (b := 0) (E' := ze_X5_over) HW (Or.inl rfl) rfl rfl (Nat.le_of_ble_eq_true rfl) (Nat.le_of_ble_eq_true rfl) (Nat.le_of_ble_eq_true rfl) (Nat.le_of_ble_eq_true rfl) (c_over ok23 t25 t27 (by omega) rfl (by decide) (fun _ => rfl) rfl (fun h28 ok28 F28 C28 => zB_iff.mpr ?_))
  show G (86, [(0, .inl (.ref q)), (1, .inl (.ref m))], [], h28, 0, 0)
  refine zrn_ok HW 1 (zB_iff.mpr (?_ : G (87, [(0, .inl (.ref q)), (1, .inl (.ref m))], [.inl (.ref m)], h28, 0, 0)))
  have o30 : hget h28 m 19 = some (.inl (.ref (m + 19))) := (show hget h28 m 19 = hget h m 19 from (F28 _ _ (by omega)).trans ((hget_put_ne (by omega)).trans ((F20 _ _ (by omega)).trans ((hget_put_ne (by omega)).trans ((hget_put_ne (by omega)).trans ((hget_put_ne (by omega)).trans ((hget_put_ne (by omega)).trans ((hget_put_ne (by omega)).trans ((hget_put_ne (by omega)).trans ((hget_put_ne (by omega)).trans (rfl))))))))))).trans (laym.1 (19, 19, 33) (by decide +kernel)).1
  have t30 : T[m + 19]? = some 33 := (laym.1 (19, 19, 33) (by decide +kernel)).2
  refine g_getf HW rfl ok28.1 hq_m rfl o30 ?_
  refine zrn_ok HW 1 (zB_iff.mpr (?_ : G (91, [(0, .inl (.ref q)), (1, .inl (.ref m))], [.inl (.ref q), .inl (.ref (m + 19))], h28, 0, 0)))
  have o32 : hget h28 q 19 = some (.inl (.ref (q + 19))) := (show hget h28 q 19 = hget h q 19 from (F28 _ _ (by omega)).trans ((hget_put_ne (by omega)).trans ((F20 _ _ (by omega)).trans ((hget_put_ne (by omega)).trans ((hget_put_ne (by omega)).trans ((hget_put_ne (by omega)).trans ((hget_put_ne (by omega)).trans ((hget_put_ne (by omega)).trans ((hget_put_ne (by omega)).trans ((hget_put_ne (by omega)).trans (rfl))))))))))).trans (lay.1 (19, 19, 33) (by decide +kernel)).1
  have t32 : T[q + 19]? = some 33 := (lay.1 (19, 19, 33) (by decide +kernel)).2
  refine g_getf HW rfl ok28.1 hq_q rfl o32 ?_
  refine g_callS (b := 0) (E' := ze_X5_over) HW (Or.inl rfl) rfl rfl (Nat.le_of_ble_eq_true rfl) (Nat.le_of_ble_eq_true rfl) (Nat.le_of_ble_eq_true rfl) (Nat.le_of_ble_eq_true rfl) (c_over ok28 t30 t32 (by omega) rfl (by decide) (fun _ => rfl) rfl (fun h33 ok33 F33 C33 => zB_iff.mpr ?_))
  show G (97, [(0, .inl (.ref q)), (1, .inl (.ref m))], [], h33, 0, 0)
  refine zrn_ok HW 1 (zB_iff.mpr (?_ : G (98, [(0, .inl (.ref q)), (1, .inl (.ref m))], [.inl (.ref m)], h33, 0, 0)))
  have o35 : hget h33 m 20 = some (.inl (.ref (m + 20))) := (show hget h33 m 20 = hget h m 20 from (F33 _ _ (by omega)).trans ((F28 _ _ (by omega)).trans ((hget_put_ne (by omega)).trans ((F20 _ _ (by omega)).trans ((hget_put_ne (by omega)).trans ((hget_put_ne (by omega)).trans ((hget_put_ne (by omega)).trans ((hget_put_ne (by omega)).trans ((hget_put_ne (by omega)).trans ((hget_put_ne (by omega)).trans ((hget_put_ne (by omega)).trans (rfl)))))))))))).trans (laym.1 (20, 20, 34) (by decide +kernel)).1
  have t35 : T[m + 20]? = some 34 := (laym.1 (20, 20, 34) (by decide +kernel)).2
  refine g_getf HW rfl ok33.1 hq_m rfl o35 ?_
  refine zrn_ok HW 1 (zB_iff.mpr (?_ : G (102, [(0, .inl (.ref q)), (1, .inl (.ref m))], [.inl (.ref q), .inl (.ref (m + 20))], h33, 0, 0)))
  have o37 : hget h33 q 20 = some (.inl (.ref (q + 20))) := (show hget h33 q 20 = hget h q 20 from (F33 _ _ (by omega)).trans ((F28 _ _ (by omega)).trans ((hget_put_ne (by omega)).trans ((F20 _ _ (by omega)).trans ((hget_put_ne (by omega)).trans ((hget_put_ne (by omega)).trans ((hget_put_ne (by omega)).trans ((hget_put_ne (by omega)).trans ((hget_put_ne (by omega)).trans ((hget_put_ne (by omega)).trans ((hget_put_ne (by omega)).trans (rfl)))))))))))).trans (lay.1 (20, 20, 34) (by decide +kernel)).1
  have t37 : T[q + 20]? = some 34 := (lay.1 (20, 20, 34) (by decide +kernel)).2
  refine g_getf HW rfl ok33.1 hq_q rfl o37 ?_
  refine g_callS (b := 0) (E' := ze_X5_over) HW (Or.inl rfl) rfl rfl (Nat.le_of_ble_eq_true rfl) (Nat.le_of_ble_eq_true rfl) (Nat.le_of_ble_eq_true rfl) (Nat.le_of_ble_eq_true rfl) (c_over ok33 t35 t37 (by omega) rfl (by decide) (fun _ => rfl) rfl (fun h38 ok38 F38 C38 => zB_iff.mpr ?_))
  show G (108, [(0, .inl (.ref q)), (1, .inl (.ref m))], [], h38, 0, 0)
  refine zrn_ok HW 1 (zB_iff.mpr (?_ : G (109, [(0, .inl (.ref q)), (1, .inl (.ref m))], [.inl (.ref m)], h38, 0, 0)))
  have o40 : hget h38 m 21 = some (.inl (.ref (m + 21))) := (show hget h38 m 21 = hget h m 21 from (F38 _ _ (by omega)).trans ((F33 _ _ (by omega)).trans ((F28 _ _ (by omega)).trans ((hget_put_ne (by omega)).trans ((F20 _ _ (by omega)).trans ((hget_put_ne (by omega)).trans ((hget_put_ne (by omega)).trans ((hget_put_ne (by omega)).trans ((hget_put_ne (by omega)).trans ((hget_put_ne (by omega)).trans ((hget_put_ne (by omega)).trans ((hget_put_ne (by omega)).trans (rfl))))))))))))).trans (laym.1 (21, 21, 35) (by decide +kernel)).1
  have t40 : T[m + 21]? = some 35 := (laym.1 (21, 21, 35) (by decide +kernel)).2
  refine g_getf HW rfl ok38.1 hq_m rfl o40 ?_
  refine zrn_ok HW 1 (zB_iff.mpr (?_ : G (113, [(0, .inl (.ref q)), (1, .inl (.ref m))], [.inl (.ref q), .inl (.ref (m + 21))], h38, 0, 0)))
  have o42 : hget h38 q 21 = some (.inl (.ref (q + 21))) := (show hget h38 q 21 = hget h q 21 from (F38 _ _ (by omega)).trans ((F33 _ _ (by omega)).trans ((F28 _ _ (by omega)).trans ((hget_put_ne (by omega)).trans ((F20 _ _ (by omega)).trans ((hget_put_ne (by omega)).trans ((hget_put_ne (by omega)).trans ((hget_put_ne (by omega)).trans ((hget_put_ne (by omega)).trans ((hget_put_ne (by omega)).trans ((hget_put_ne (by omega)).trans ((hget_put_ne (by omega)).trans (rfl))))))))))))).trans (lay.1 (21, 21, 35) (by decide +kernel)).1
  have t42 : T[q + 21]? = some 35 := (lay.1 (21, 21, 35) (by decide +kernel)).2
  refine g_getf HW rfl ok38.1 hq_q rfl o42 ?_
  refine g_callS (b := 0) (E' := ze_X5_over) HW (Or.inl rfl) rfl rfl (Nat.le_of_ble_eq_true rfl) (Nat.le_of_ble_eq_true rfl) (Nat.le_of_ble_eq_true rfl) (Nat.le_of_ble_eq_true rfl) (c_over ok38 t40 t42 (by omega) rfl (by decide) (fun _ => rfl) rfl (fun h43 ok43 F43 C43 => zB_iff.mpr ?_))
  show G (119, [(0, .inl (.ref q)), (1, .inl (.ref m))], [], h43, 0, 0)
  refine zrn_ok HW 1 (zB_iff.mpr (?_ : G (120, [(0, .inl (.ref q)), (1, .inl (.ref m))], [.inl (.ref m)], h43, 0, 0)))
  have o45 : hget h43 m 22 = some (.inl (.ref (m + 22))) := (show hget h43 m 22 = hget h m 22 from (F43 _ _ (by omega)).trans ((F38 _ _ (by omega)).trans ((F33 _ _ (by omega)).trans ((F28 _ _ (by omega)).trans ((hget_put_ne (by omega)).trans ((F20 _ _ (by omega)).trans ((hget_put_ne (by omega)).trans ((hget_put_ne (by omega)).trans ((hget_put_ne (by omega)).trans ((hget_put_ne (by omega)).trans ((hget_put_ne (by omega)).trans ((hget_put_ne (by omega)).trans ((hget_put_ne (by omega)).trans (rfl)))))))))))))).trans (laym.1 (22, 22, 36) (by decide +kernel)).1
  have t45 : T[m + 22]? = some 36 := (laym.1 (22, 22, 36) (by decide +kernel)).2
  refine g_getf HW rfl ok43.1 hq_m rfl o45 ?_
  refine zrn_ok HW 1 (zB_iff.mpr (?_ : G (124, [(0, .inl (.ref q)), (1, .inl (.ref m))], [.inl (.ref q), .inl (.ref (m + 22))], h43, 0, 0)))
  have o47 : hget h43 q 22 = some (.inl (.ref (q + 22))) := (show hget h43 q 22 = hget h q 22 from (F43 _ _ (by omega)).trans ((F38 _ _ (by omega)).trans ((F33 _ _ (by omega)).trans ((F28 _ _ (by omega)).trans ((hget_put_ne (by omega)).trans ((F20 _ _ (by omega)).trans ((hget_put_ne (by omega)).trans ((hget_put_ne (by omega)).trans ((hget_put_ne (by omega)).trans ((hget_put_ne (by omega)).trans ((hget_put_ne (by omega)).trans ((hget_put_ne (by omega)).trans ((hget_put_ne (by omega)).trans (rfl)))))))))))))).trans (lay.1 (22, 22, 36) (by decide +kernel)).1
  have t47 : T[q + 22]? = some 36 := (lay.1 (22, 22, 36) (by decide +kernel)).2
  refine g_getf HW rfl ok43.1 hq_q rfl o47 ?_
  refine g_callS (b := 0) (E' := ze_X5_over) HW (Or.inl rfl) rfl rfl (Nat.le_of_ble_eq_true rfl) (Nat.le_of_ble_eq_true rfl) (Nat.le_of_ble_eq_true rfl) (Nat.le_of_ble_eq_true rfl) (c_over ok43 t45 t47 (by omega) rfl (by decide) (fun _ => rfl) rfl (fun h48 ok48 F48 C48 => zB_iff.mpr ?_))
  show G (130, [(0, .inl (.ref q)), (1, .inl (.ref m))], [], h48, 0, 0)
  refine zrn_ok HW 2 (zB_iff.mpr (?_ : G (132, [(0, .inl (.ref q)), (1, .inl (.ref m))], [.inl (.ref m), .inl (.ref q)], h48, 0, 0)))
  obtain ⟨x49, g49, e49, l49, u49⟩ := hi_val (i := 23) ok48.1 hq_m (by decide) rfl
  have l49 : (0 : Int) ≤ x49.toInt := l49
  have u49 : x49.toInt ≤ (4 : Int) := u49
  refine g_getf HW rfl ok48.1 hq_m rfl g49 ?_
  have ok50 : wOK (fun _ _ => True) N T (hput h48 q 23 (.inl (.int x49))) := wOK_put hst ok48 hq_q rfl ⟨_, rfl, (by show (0 : Int) ≤ _; omega), (by show _ ≤ (4 : Int); omega)⟩
  refine g_putf HW rfl ok48.1 hq_q rfl (by decide) rfl ?_
  refine zrn_ok HW 1 (zB_iff.mpr (?_ : G (139, [(0, .inl (.ref q)), (1, .inl (.ref m))], [.inl (.ref m)], (hput h48 q 23 (.inl (.int x49))), 0, 0)))
  have o52 : hget (hput h48 q 23 (.inl (.int x49))) m 24 = some (.inl (.ref (m + 23))) := (show hget (hput h48 q 23 (.inl (.int x49))) m 24 = hget h m 24 from (hget_put_ne (by omega)).trans ((F48 _ _ (by omega)).trans ((F43 _ _ (by omega)).trans ((F38 _ _ (by omega)).trans ((F33 _ _ (by omega)).trans ((F28 _ _ (by omega)).trans ((hget_put_ne (by omega)).trans ((F20 _ _ (by omega)).trans ((hget_put_ne (by omega)).trans ((hget_put_ne (by omega)).trans ((hget_put_ne (by omega)).trans ((hget_put_ne (by omega)).trans ((hget_put_ne (by omega)).trans ((hget_put_ne (by omega)).trans ((hget_put_ne (by omega)).trans (rfl)))))))))))))))).trans (laym.1 (24, 23, 37) (by decide +kernel)).1
  have t52 : T[m + 23]? = some 37 := (laym.1 (24, 23, 37) (by decide +kernel)).2
  refine g_getf HW rfl ok50.1 hq_m rfl o52 ?_
  refine zrn_ok HW 1 (zB_iff.mpr (?_ : G (143, [(0, .inl (.ref q)), (1, .inl (.ref m))], [.inl (.ref q), .inl (.ref (m + 23))], (hput h48 q 23 (.inl (.int x49))), 0, 0)))
  have o54 : hget (hput h48 q 23 (.inl (.int x49))) q 24 = some (.inl (.ref (q + 23))) := (show hget (hput h48 q 23 (.inl (.int x49))) q 24 = hget h q 24 from (hget_put_ne (by omega)).trans ((F48 _ _ (by omega)).trans ((F43 _ _ (by omega)).trans ((F38 _ _ (by omega)).trans ((F33 _ _ (by omega)).trans ((F28 _ _ (by omega)).trans ((hget_put_ne (by omega)).trans ((F20 _ _ (by omega)).trans ((hget_put_ne (by omega)).trans ((hget_put_ne (by omega)).trans ((hget_put_ne (by omega)).trans ((hget_put_ne (by omega)).trans ((hget_put_ne (by omega)).trans ((hget_put_ne (by omega)).trans ((hget_put_ne (by omega)).trans (rfl)))))))))))))))).trans (lay.1 (24, 23, 37) (by decide +kernel)).1
  have t54 : T[q + 23]? = some 37 := (lay.1 (24, 23, 37) (by decide +kernel)).2
  refine g_getf HW rfl ok50.1 hq_q rfl o54 ?_
  refine g_callS (b := 0) (E' := ze_X5_over) HW (Or.inl rfl) rfl rfl (Nat.le_of_ble_eq_true rfl) (Nat.le_of_ble_eq_true rfl) (Nat.le_of_ble_eq_true rfl) (Nat.le_of_ble_eq_true rfl) (c_over ok50 t52 t54 (by omega) rfl (by decide) (fun _ => rfl) rfl (fun h55 ok55 F55 C55 => zB_iff.mpr ?_))
  show G (149, [(0, .inl (.ref q)), (1, .inl (.ref m))], [], h55, 0, 0)
  refine zrn_ok HW 6 (zB_iff.mpr (?_ : G (157, [(2, .inl (.int (0 : Int32))), (0, .inl (.ref q)), (1, .inl (.ref m))], [.inl (.ref m)], h55, 0, 0)))
  have o57 : hget h55 m 25 = some (.inl (.ref (m + 24))) := (show hget h55 m 25 = hget h m 25 from (F55 _ _ (by omega)).trans ((hget_put_ne (by omega)).trans ((F48 _ _ (by omega)).trans ((F43 _ _ (by omega)).trans ((F38 _ _ (by omega)).trans ((F33 _ _ (by omega)).trans ((F28 _ _ (by omega)).trans ((hget_put_ne (by omega)).trans ((F20 _ _ (by omega)).trans ((hget_put_ne (by omega)).trans ((hget_put_ne (by omega)).trans ((hget_put_ne (by omega)).trans ((hget_put_ne (by omega)).trans ((hget_put_ne (by omega)).trans ((hget_put_ne (by omega)).trans ((hget_put_ne (by omega)).trans (rfl))))))))))))))))).trans (laym.1 (25, 24, 38) (by decide +kernel)).1
  have t57 : T[m + 24]? = some 38 := (laym.1 (25, 24, 38) (by decide +kernel)).2
  refine g_getf HW rfl ok55.1 hq_m rfl o57 ?_
  refine zrn_ok HW 1 (zB_iff.mpr (?_ : G (161, [(2, .inl (.int (0 : Int32))), (0, .inl (.ref q)), (1, .inl (.ref m))], [.inl (.int (0 : Int32)), .inl (.ref (m + 24))], h55, 0, 0)))
  have p58 : hget h55 (m + 24) 0 = some (.inl (.ref (m + (25 + 0)))) := (show hget h55 (m + 24) 0 = hget h (m + 24) 0 from (F55 _ _ (by omega)).trans ((hget_put_ne (by omega)).trans ((F48 _ _ (by omega)).trans ((F43 _ _ (by omega)).trans ((F38 _ _ (by omega)).trans ((F33 _ _ (by omega)).trans ((F28 _ _ (by omega)).trans ((hget_put_ne (by omega)).trans ((F20 _ _ (by omega)).trans ((hget_put_ne (by omega)).trans ((hget_put_ne (by omega)).trans ((hget_put_ne (by omega)).trans ((hget_put_ne (by omega)).trans ((hget_put_ne (by omega)).trans ((hget_put_ne (by omega)).trans ((hget_put_ne (by omega)).trans (rfl))))))))))))))))).trans (laym.2.2 0 (by decide)).1
  have u58 : T[m + (25 + 0)]? = some 39 := (laym.2.2 0 (by decide)).2
  refine g_aald HW rfl ok55.1 t57 ⟨by decide, by decide⟩ (by decide) p58 ?_
  refine zrn_ok HW 1 (zB_iff.mpr (?_ : G (163, [(2, .inl (.int (0 : Int32))), (0, .inl (.ref q)), (1, .inl (.ref m))], [.inl (.ref q), .inl (.ref (m + (25 + 0)))], h55, 0, 0)))
  have o60 : hget h55 q 25 = some (.inl (.ref (q + 24))) := (show hget h55 q 25 = hget h q 25 from (F55 _ _ (by omega)).trans ((hget_put_ne (by omega)).trans ((F48 _ _ (by omega)).trans ((F43 _ _ (by omega)).trans ((F38 _ _ (by omega)).trans ((F33 _ _ (by omega)).trans ((F28 _ _ (by omega)).trans ((hget_put_ne (by omega)).trans ((F20 _ _ (by omega)).trans ((hget_put_ne (by omega)).trans ((hget_put_ne (by omega)).trans ((hget_put_ne (by omega)).trans ((hget_put_ne (by omega)).trans ((hget_put_ne (by omega)).trans ((hget_put_ne (by omega)).trans ((hget_put_ne (by omega)).trans (rfl))))))))))))))))).trans (lay.1 (25, 24, 38) (by decide +kernel)).1
  have t60 : T[q + 24]? = some 38 := (lay.1 (25, 24, 38) (by decide +kernel)).2
  refine g_getf HW rfl ok55.1 hq_q rfl o60 ?_
  refine zrn_ok HW 1 (zB_iff.mpr (?_ : G (167, [(2, .inl (.int (0 : Int32))), (0, .inl (.ref q)), (1, .inl (.ref m))], [.inl (.int (0 : Int32)), .inl (.ref (q + 24)), .inl (.ref (m + (25 + 0)))], h55, 0, 0)))
  have p61 : hget h55 (q + 24) 0 = some (.inl (.ref (q + (25 + 0)))) := (show hget h55 (q + 24) 0 = hget h (q + 24) 0 from (F55 _ _ (by omega)).trans ((hget_put_ne (by omega)).trans ((F48 _ _ (by omega)).trans ((F43 _ _ (by omega)).trans ((F38 _ _ (by omega)).trans ((F33 _ _ (by omega)).trans ((F28 _ _ (by omega)).trans ((hget_put_ne (by omega)).trans ((F20 _ _ (by omega)).trans ((hget_put_ne (by omega)).trans ((hget_put_ne (by omega)).trans ((hget_put_ne (by omega)).trans ((hget_put_ne (by omega)).trans ((hget_put_ne (by omega)).trans ((hget_put_ne (by omega)).trans ((hget_put_ne (by omega)).trans (rfl))))))))))))))))).trans (lay.2.2 0 (by decide)).1
  have u61 : T[q + (25 + 0)]? = some 39 := (lay.2.2 0 (by decide)).2
  refine g_aald HW rfl ok55.1 t60 ⟨by decide, by decide⟩ (by decide) p61 ?_
  refine g_callS (b := 0) (E' := ze_X5_over) HW (Or.inl rfl) rfl rfl (Nat.le_of_ble_eq_true rfl) (Nat.le_of_ble_eq_true rfl) (Nat.le_of_ble_eq_true rfl) (Nat.le_of_ble_eq_true rfl) (c_over ok55 u58 u61 (by omega) rfl (by decide) (fun _ => rfl) rfl (fun h62 ok62 F62 C62 => zB_iff.mpr ?_))
  show G (171, [(2, .inl (.int (0 : Int32))), (0, .inl (.ref q)), (1, .inl (.ref m))], [], h62, 0, 0)
  refine zrn_ok HW 6 (zB_iff.mpr (?_ : G (157, [(2, .inl (.int (1 : Int32))), (0, .inl (.ref q)), (1, .inl (.ref m))], [.inl (.ref m)], h62, 0, 0)))
  have o64 : hget h62 m 25 = some (.inl (.ref (m + 24))) := (show hget h62 m 25 = hget h m 25 from (F62 _ _ (by omega)).trans ((F55 _ _ (by omega)).trans ((hget_put_ne (by omega)).trans ((F48 _ _ (by omega)).trans ((F43 _ _ (by omega)).trans ((F38 _ _ (by omega)).trans ((F33 _ _ (by omega)).trans ((F28 _ _ (by omega)).trans ((hget_put_ne (by omega)).trans ((F20 _ _ (by omega)).trans ((hget_put_ne (by omega)).trans ((hget_put_ne (by omega)).trans ((hget_put_ne (by omega)).trans ((hget_put_ne (by omega)).trans ((hget_put_ne (by omega)).trans ((hget_put_ne (by omega)).trans ((hget_put_ne (by omega)).trans (rfl)))))))))))))))))).trans (laym.1 (25, 24, 38) (by decide +kernel)).1
  have t64 : T[m + 24]? = some 38 := (laym.1 (25, 24, 38) (by decide +kernel)).2
  refine g_getf HW rfl ok62.1 hq_m rfl o64 ?_
  refine zrn_ok HW 1 (zB_iff.mpr (?_ : G (161, [(2, .inl (.int (1 : Int32))), (0, .inl (.ref q)), (1, .inl (.ref m))], [.inl (.int (1 : Int32)), .inl (.ref (m + 24))], h62, 0, 0)))
  have p65 : hget h62 (m + 24) 1 = some (.inl (.ref (m + (25 + 1)))) := (show hget h62 (m + 24) 1 = hget h (m + 24) 1 from (F62 _ _ (by omega)).trans ((F55 _ _ (by omega)).trans ((hget_put_ne (by omega)).trans ((F48 _ _ (by omega)).trans ((F43 _ _ (by omega)).trans ((F38 _ _ (by omega)).trans ((F33 _ _ (by omega)).trans ((F28 _ _ (by omega)).trans ((hget_put_ne (by omega)).trans ((F20 _ _ (by omega)).trans ((hget_put_ne (by omega)).trans ((hget_put_ne (by omega)).trans ((hget_put_ne (by omega)).trans ((hget_put_ne (by omega)).trans ((hget_put_ne (by omega)).trans ((hget_put_ne (by omega)).trans ((hget_put_ne (by omega)).trans (rfl)))))))))))))))))).trans (laym.2.2 1 (by decide)).1
  have u65 : T[m + (25 + 1)]? = some 39 := (laym.2.2 1 (by decide)).2
  refine g_aald HW rfl ok62.1 t64 ⟨by decide, by decide⟩ (by decide) p65 ?_
  refine zrn_ok HW 1 (zB_iff.mpr (?_ : G (163, [(2, .inl (.int (1 : Int32))), (0, .inl (.ref q)), (1, .inl (.ref m))], [.inl (.ref q), .inl (.ref (m + (25 + 1)))], h62, 0, 0)))
  have o67 : hget h62 q 25 = some (.inl (.ref (q + 24))) := (show hget h62 q 25 = hget h q 25 from (F62 _ _ (by omega)).trans ((F55 _ _ (by omega)).trans ((hget_put_ne (by omega)).trans ((F48 _ _ (by omega)).trans ((F43 _ _ (by omega)).trans ((F38 _ _ (by omega)).trans ((F33 _ _ (by omega)).trans ((F28 _ _ (by omega)).trans ((hget_put_ne (by omega)).trans ((F20 _ _ (by omega)).trans ((hget_put_ne (by omega)).trans ((hget_put_ne (by omega)).trans ((hget_put_ne (by omega)).trans ((hget_put_ne (by omega)).trans ((hget_put_ne (by omega)).trans ((hget_put_ne (by omega)).trans ((hget_put_ne (by omega)).trans (rfl)))))))))))))))))).trans (lay.1 (25, 24, 38) (by decide +kernel)).1
  have t67 : T[q + 24]? = some 38 := (lay.1 (25, 24, 38) (by decide +kernel)).2
  refine g_getf HW rfl ok62.1 hq_q rfl o67 ?_
  refine zrn_ok HW 1 (zB_iff.mpr (?_ : G (167, [(2, .inl (.int (1 : Int32))), (0, .inl (.ref q)), (1, .inl (.ref m))], [.inl (.int (1 : Int32)), .inl (.ref (q + 24)), .inl (.ref (m + (25 + 1)))], h62, 0, 0)))
  have p68 : hget h62 (q + 24) 1 = some (.inl (.ref (q + (25 + 1)))) := (show hget h62 (q + 24) 1 = hget h (q + 24) 1 from (F62 _ _ (by omega)).trans ((F55 _ _ (by omega)).trans ((hget_put_ne (by omega)).trans ((F48 _ _ (by omega)).trans ((F43 _ _ (by omega)).trans ((F38 _ _ (by omega)).trans ((F33 _ _ (by omega)).trans ((F28 _ _ (by omega)).trans ((hget_put_ne (by omega)).trans ((F20 _ _ (by omega)).trans ((hget_put_ne (by omega)).trans ((hget_put_ne (by omega)).trans ((hget_put_ne (by omega)).trans ((hget_put_ne (by omega)).trans ((hget_put_ne (by omega)).trans ((hget_put_ne (by omega)).trans ((hget_put_ne (by omega)).trans (rfl)))))))))))))))))).trans (lay.2.2 1 (by decide)).1
  have u68 : T[q + (25 + 1)]? = some 39 := (lay.2.2 1 (by decide)).2
  refine g_aald HW rfl ok62.1 t67 ⟨by decide, by decide⟩ (by decide) p68 ?_
  refine g_callS (b := 0) (E' := ze_X5_over) HW (Or.inl rfl) rfl rfl (Nat.le_of_ble_eq_true rfl) (Nat.le_of_ble_eq_true rfl) (Nat.le_of_ble_eq_true rfl) (Nat.le_of_ble_eq_true rfl) (c_over ok62 u65 u68 (by omega) rfl (by decide) (fun _ => rfl) rfl (fun h69 ok69 F69 C69 => zB_iff.mpr ?_))
  show G (171, [(2, .inl (.int (1 : Int32))), (0, .inl (.ref q)), (1, .inl (.ref m))], [], h69, 0, 0)
  refine zrn_ok HW 6 (zB_iff.mpr (?_ : G (157, [(2, .inl (.int (2 : Int32))), (0, .inl (.ref q)), (1, .inl (.ref m))], [.inl (.ref m)], h69, 0, 0)))
  have o71 : hget h69 m 25 = some (.inl (.ref (m + 24))) := (show hget h69 m 25 = hget h m 25 from (F69 _ _ (by omega)).trans ((F62 _ _ (by omega)).trans ((F55 _ _ (by omega)).trans ((hget_put_ne (by omega)).trans ((F48 _ _ (by omega)).trans ((F43 _ _ (by omega)).trans ((F38 _ _ (by omega)).trans ((F33 _ _ (by omega)).trans ((F28 _ _ (by omega)).trans ((hget_put_ne (by omega)).trans ((F20 _ _ (by omega)).trans ((hget_put_ne (by omega)).trans ((hget_put_ne (by omega)).trans ((hget_put_ne (by omega)).trans ((hget_put_ne (by omega)).trans ((hget_put_ne (by omega)).trans ((hget_put_ne (by omega)).trans ((hget_put_ne (by omega)).trans (rfl))))))))))))))))))).trans (laym.1 (25, 24, 38) (by decide +kernel)).1
  have t71 : T[m + 24]? = some 38 := (laym.1 (25, 24, 38) (by decide +kernel)).2
  refine g_getf HW rfl ok69.1 hq_m rfl o71 ?_
  refine zrn_ok HW 1 (zB_iff.mpr (?_ : G (161, [(2, .inl (.int (2 : Int32))), (0, .inl (.ref q)), (1, .inl (.ref m))], [.inl (.int (2 : Int32)), .inl (.ref (m + 24))], h69, 0, 0)))
  have p72 : hget h69 (m + 24) 2 = some (.inl (.ref (m + (25 + 2)))) := (show hget h69 (m + 24) 2 = hget h (m + 24) 2 from (F69 _ _ (by omega)).trans ((F62 _ _ (by omega)).trans ((F55 _ _ (by omega)).trans ((hget_put_ne (by omega)).trans ((F48 _ _ (by omega)).trans ((F43 _ _ (by omega)).trans ((F38 _ _ (by omega)).trans ((F33 _ _ (by omega)).trans ((F28 _ _ (by omega)).trans ((hget_put_ne (by omega)).trans ((F20 _ _ (by omega)).trans ((hget_put_ne (by omega)).trans ((hget_put_ne (by omega)).trans ((hget_put_ne (by omega)).trans ((hget_put_ne (by omega)).trans ((hget_put_ne (by omega)).trans ((hget_put_ne (by omega)).trans ((hget_put_ne (by omega)).trans (rfl))))))))))))))))))).trans (laym.2.2 2 (by decide)).1
  have u72 : T[m + (25 + 2)]? = some 39 := (laym.2.2 2 (by decide)).2
  refine g_aald HW rfl ok69.1 t71 ⟨by decide, by decide⟩ (by decide) p72 ?_
  refine zrn_ok HW 1 (zB_iff.mpr (?_ : G (163, [(2, .inl (.int (2 : Int32))), (0, .inl (.ref q)), (1, .inl (.ref m))], [.inl (.ref q), .inl (.ref (m + (25 + 2)))], h69, 0, 0)))
  have o74 : hget h69 q 25 = some (.inl (.ref (q + 24))) := (show hget h69 q 25 = hget h q 25 from (F69 _ _ (by omega)).trans ((F62 _ _ (by omega)).trans ((F55 _ _ (by omega)).trans ((hget_put_ne (by omega)).trans ((F48 _ _ (by omega)).trans ((F43 _ _ (by omega)).trans ((F38 _ _ (by omega)).trans ((F33 _ _ (by omega)).trans ((F28 _ _ (by omega)).trans ((hget_put_ne (by omega)).trans ((F20 _ _ (by omega)).trans ((hget_put_ne (by omega)).trans ((hget_put_ne (by omega)).trans ((hget_put_ne (by omega)).trans ((hget_put_ne (by omega)).trans ((hget_put_ne (by omega)).trans ((hget_put_ne (by omega)).trans ((hget_put_ne (by omega)).trans (rfl))))))))))))))))))).trans (lay.1 (25, 24, 38) (by decide +kernel)).1
  have t74 : T[q + 24]? = some 38 := (lay.1 (25, 24, 38) (by decide +kernel)).2
  refine g_getf HW rfl ok69.1 hq_q rfl o74 ?_
  refine zrn_ok HW 1 (zB_iff.mpr (?_ : G (167, [(2, .inl (.int (2 : Int32))), (0, .inl (.ref q)), (1, .inl (.ref m))], [.inl (.int (2 : Int32)), .inl (.ref (q + 24)), .inl (.ref (m + (25 + 2)))], h69, 0, 0)))
  have p75 : hget h69 (q + 24) 2 = some (.inl (.ref (q + (25 + 2)))) := (show hget h69 (q + 24) 2 = hget h (q + 24) 2 from (F69 _ _ (by omega)).trans ((F62 _ _ (by omega)).trans ((F55 _ _ (by omega)).trans ((hget_put_ne (by omega)).trans ((F48 _ _ (by omega)).trans ((F43 _ _ (by omega)).trans ((F38 _ _ (by omega)).trans ((F33 _ _ (by omega)).trans ((F28 _ _ (by omega)).trans ((hget_put_ne (by omega)).trans ((F20 _ _ (by omega)).trans ((hget_put_ne (by omega)).trans ((hget_put_ne (by omega)).trans ((hget_put_ne (by omega)).trans ((hget_put_ne (by omega)).trans ((hget_put_ne (by omega)).trans ((hget_put_ne (by omega)).trans ((hget_put_ne (by omega)).trans (rfl))))))))))))))))))).trans (lay.2.2 2 (by decide)).1
  have u75 : T[q + (25 + 2)]? = some 39 := (lay.2.2 2 (by decide)).2
  refine g_aald HW rfl ok69.1 t74 ⟨by decide, by decide⟩ (by decide) p75 ?_
  refine g_callS (b := 0) (E' := ze_X5_over) HW (Or.inl rfl) rfl rfl (Nat.le_of_ble_eq_true rfl) (Nat.le_of_ble_eq_true rfl) (Nat.le_of_ble_eq_true rfl) (Nat.le_of_ble_eq_true rfl) (c_over ok69 u72 u75 (by omega) rfl (by decide) (fun _ => rfl) rfl (fun h76 ok76 F76 C76 => zB_iff.mpr ?_))
  show G (171, [(2, .inl (.int (2 : Int32))), (0, .inl (.ref q)), (1, .inl (.ref m))], [], h76, 0, 0)
  refine zrn_ok HW 6 (zB_iff.mpr (?_ : G (157, [(2, .inl (.int (3 : Int32))), (0, .inl (.ref q)), (1, .inl (.ref m))], [.inl (.ref m)], h76, 0, 0)))
  have o78 : hget h76 m 25 = some (.inl (.ref (m + 24))) := (show hget h76 m 25 = hget h m 25 from (F76 _ _ (by omega)).trans ((F69 _ _ (by omega)).trans ((F62 _ _ (by omega)).trans ((F55 _ _ (by omega)).trans ((hget_put_ne (by omega)).trans ((F48 _ _ (by omega)).trans ((F43 _ _ (by omega)).trans ((F38 _ _ (by omega)).trans ((F33 _ _ (by omega)).trans ((F28 _ _ (by omega)).trans ((hget_put_ne (by omega)).trans ((F20 _ _ (by omega)).trans ((hget_put_ne (by omega)).trans ((hget_put_ne (by omega)).trans ((hget_put_ne (by omega)).trans ((hget_put_ne (by omega)).trans ((hget_put_ne (by omega)).trans ((hget_put_ne (by omega)).trans ((hget_put_ne (by omega)).trans (rfl)))))))))))))))))))).trans (laym.1 (25, 24, 38) (by decide +kernel)).1
  have t78 : T[m + 24]? = some 38 := (laym.1 (25, 24, 38) (by decide +kernel)).2
  refine g_getf HW rfl ok76.1 hq_m rfl o78 ?_
  refine zrn_ok HW 1 (zB_iff.mpr (?_ : G (161, [(2, .inl (.int (3 : Int32))), (0, .inl (.ref q)), (1, .inl (.ref m))], [.inl (.int (3 : Int32)), .inl (.ref (m + 24))], h76, 0, 0)))
  have p79 : hget h76 (m + 24) 3 = some (.inl (.ref (m + (25 + 3)))) := (show hget h76 (m + 24) 3 = hget h (m + 24) 3 from (F76 _ _ (by omega)).trans ((F69 _ _ (by omega)).trans ((F62 _ _ (by omega)).trans ((F55 _ _ (by omega)).trans ((hget_put_ne (by omega)).trans ((F48 _ _ (by omega)).trans ((F43 _ _ (by omega)).trans ((F38 _ _ (by omega)).trans ((F33 _ _ (by omega)).trans ((F28 _ _ (by omega)).trans ((hget_put_ne (by omega)).trans ((F20 _ _ (by omega)).trans ((hget_put_ne (by omega)).trans ((hget_put_ne (by omega)).trans ((hget_put_ne (by omega)).trans ((hget_put_ne (by omega)).trans ((hget_put_ne (by omega)).trans ((hget_put_ne (by omega)).trans ((hget_put_ne (by omega)).trans (rfl)))))))))))))))))))).trans (laym.2.2 3 (by decide)).1
  have u79 : T[m + (25 + 3)]? = some 39 := (laym.2.2 3 (by decide)).2
  refine g_aald HW rfl ok76.1 t78 ⟨by decide, by decide⟩ (by decide) p79 ?_
  refine zrn_ok HW 1 (zB_iff.mpr (?_ : G (163, [(2, .inl (.int (3 : Int32))), (0, .inl (.ref q)), (1, .inl (.ref m))], [.inl (.ref q), .inl (.ref (m + (25 + 3)))], h76, 0, 0)))
  have o81 : hget h76 q 25 = some (.inl (.ref (q + 24))) := (show hget h76 q 25 = hget h q 25 from (F76 _ _ (by omega)).trans ((F69 _ _ (by omega)).trans ((F62 _ _ (by omega)).trans ((F55 _ _ (by omega)).trans ((hget_put_ne (by omega)).trans ((F48 _ _ (by omega)).trans ((F43 _ _ (by omega)).trans ((F38 _ _ (by omega)).trans ((F33 _ _ (by omega)).trans ((F28 _ _ (by omega)).trans ((hget_put_ne (by omega)).trans ((F20 _ _ (by omega)).trans ((hget_put_ne (by omega)).trans ((hget_put_ne (by omega)).trans ((hget_put_ne (by omega)).trans ((hget_put_ne (by omega)).trans ((hget_put_ne (by omega)).trans ((hget_put_ne (by omega)).trans ((hget_put_ne (by omega)).trans (rfl)))))))))))))))))))).trans (lay.1 (25, 24, 38) (by decide +kernel)).1
  have t81 : T[q + 24]? = some 38 := (lay.1 (25, 24, 38) (by decide +kernel)).2
  refine g_getf HW rfl ok76.1 hq_q rfl o81 ?_
  refine zrn_ok HW 1 (zB_iff.mpr (?_ : G (167, [(2, .inl (.int (3 : Int32))), (0, .inl (.ref q)), (1, .inl (.ref m))], [.inl (.int (3 : Int32)), .inl (.ref (q + 24)), .inl (.ref (m + (25 + 3)))], h76, 0, 0)))
  have p82 : hget h76 (q + 24) 3 = some (.inl (.ref (q + (25 + 3)))) := (show hget h76 (q + 24) 3 = hget h (q + 24) 3 from (F76 _ _ (by omega)).trans ((F69 _ _ (by omega)).trans ((F62 _ _ (by omega)).trans ((F55 _ _ (by omega)).trans ((hget_put_ne (by omega)).trans ((F48 _ _ (by omega)).trans ((F43 _ _ (by omega)).trans ((F38 _ _ (by omega)).trans ((F33 _ _ (by omega)).trans ((F28 _ _ (by omega)).trans ((hget_put_ne (by omega)).trans ((F20 _ _ (by omega)).trans ((hget_put_ne (by omega)).trans ((hget_put_ne (by omega)).trans ((hget_put_ne (by omega)).trans ((hget_put_ne (by omega)).trans ((hget_put_ne (by omega)).trans ((hget_put_ne (by omega)).trans ((hget_put_ne (by omega)).trans (rfl)))))))))))))))))))).trans (lay.2.2 3 (by decide)).1
  have u82 : T[q + (25 + 3)]? = some 39 := (lay.2.2 3 (by decide)).2
  refine g_aald HW rfl ok76.1 t81 ⟨by decide, by decide⟩ (by decide) p82 ?_
  refine g_callS (b := 0) (E' := ze_X5_over) HW (Or.inl rfl) rfl rfl (Nat.le_of_ble_eq_true rfl) (Nat.le_of_ble_eq_true rfl) (Nat.le_of_ble_eq_true rfl) (Nat.le_of_ble_eq_true rfl) (c_over ok76 u79 u82 (by omega) rfl (by decide) (fun _ => rfl) rfl (fun h83 ok83 F83 C83 => zB_iff.mpr ?_))
  show G (171, [(2, .inl (.int (3 : Int32))), (0, .inl (.ref q)), (1, .inl (.ref m))], [], h83, 0, 0)
  refine zrn_ok HW 6 ?_
  have A17 : ∀ i : Nat, i < 61 → hget h83 (q + 17) i = hget h (m + 17) i := fun i hi0 => (show hget h83 (q + 17) i = hget h20 (q + 17) i from (F83 _ _ (by omega)).trans ((F76 _ _ (by omega)).trans ((F69 _ _ (by omega)).trans ((F62 _ _ (by omega)).trans ((F55 _ _ (by omega)).trans ((hget_put_ne (by omega)).trans ((F48 _ _ (by omega)).trans ((F43 _ _ (by omega)).trans ((F38 _ _ (by omega)).trans ((F33 _ _ (by omega)).trans ((F28 _ _ (by omega)).trans ((hget_put_ne (by omega)).trans (rfl))))))))))))).trans ((C20 i hi0).trans (show hget (hput (hput (hput (hput (hput (hput (hput h q 9 (.inl (.int m9))) q 10 (.inl (.int x4))) q 11 (.inl (.int x6))) q 12 (.inl (.int x8))) q 13 (.inl (.int x10))) q 14 (.inl (.int x12))) q 15 (.inl (.int x14))) (m + 17) i = hget h (m + 17) i from (hget_put_ne (by omega)).trans ((hget_put_ne (by omega)).trans ((hget_put_ne (by omega)).trans ((hget_put_ne (by omega)).trans ((hget_put_ne (by omega)).trans ((hget_put_ne (by omega)).trans ((hget_put_ne (by omega)).trans (rfl)))))))))
  have A19 : ∀ i : Nat, i < 8 → hget h83 (q + 19) i = hget h (m + 19) i := fun i hi0 => (show hget h83 (q + 19) i = hget h33 (q + 19) i from (F83 _ _ (by omega)).trans ((F76 _ _ (by omega)).trans ((F69 _ _ (by omega)).trans ((F62 _ _ (by omega)).trans ((F55 _ _ (by omega)).trans ((hget_put_ne (by omega)).trans ((F48 _ _ (by omega)).trans ((F43 _ _ (by omega)).trans ((F38 _ _ (by omega)).trans (rfl)))))))))).trans ((C33 i hi0).trans (show hget h28 (m + 19) i = hget h (m + 19) i from (F28 _ _ (by omega)).trans ((hget_put_ne (by omega)).trans ((F20 _ _ (by omega)).trans ((hget_put_ne (by omega)).trans ((hget_put_ne (by omega)).trans ((hget_put_ne (by omega)).trans ((hget_put_ne (by omega)).trans ((hget_put_ne (by omega)).trans ((hget_put_ne (by omega)).trans ((hget_put_ne (by omega)).trans (rfl))))))))))))
  have A22 : ∀ i : Nat, i < 8 → hget h83 (q + 22) i = hget h (m + 22) i := fun i hi0 => (show hget h83 (q + 22) i = hget h48 (q + 22) i from (F83 _ _ (by omega)).trans ((F76 _ _ (by omega)).trans ((F69 _ _ (by omega)).trans ((F62 _ _ (by omega)).trans ((F55 _ _ (by omega)).trans ((hget_put_ne (by omega)).trans (rfl))))))).trans ((C48 i hi0).trans (show hget h43 (m + 22) i = hget h (m + 22) i from (F43 _ _ (by omega)).trans ((F38 _ _ (by omega)).trans ((F33 _ _ (by omega)).trans ((F28 _ _ (by omega)).trans ((hget_put_ne (by omega)).trans ((F20 _ _ (by omega)).trans ((hget_put_ne (by omega)).trans ((hget_put_ne (by omega)).trans ((hget_put_ne (by omega)).trans ((hget_put_ne (by omega)).trans ((hget_put_ne (by omega)).trans ((hget_put_ne (by omega)).trans ((hget_put_ne (by omega)).trans (rfl)))))))))))))))
  obtain ⟨w9, hw9, -⟩ := hOK_get (i := 9) (T := T) (h := h) (q := q) ok.1 hq_q (by decide)
  have B9 : hi h83 q 9 = hi h m 9 := by rw [hi_eq (show hget h83 q 9 = hget (hput h q 9 (.inl (.int m9))) q 9 from (F83 _ _ (by omega)).trans ((F76 _ _ (by omega)).trans ((F69 _ _ (by omega)).trans ((F62 _ _ (by omega)).trans ((F55 _ _ (by omega)).trans ((hget_put_ne (by omega)).trans ((F48 _ _ (by omega)).trans ((F43 _ _ (by omega)).trans ((F38 _ _ (by omega)).trans ((F33 _ _ (by omega)).trans ((F28 _ _ (by omega)).trans ((hget_put_ne (by omega)).trans ((F20 _ _ (by omega)).trans ((hget_put_ne (by omega)).trans ((hget_put_ne (by omega)).trans ((hget_put_ne (by omega)).trans ((hget_put_ne (by omega)).trans ((hget_put_ne (by omega)).trans ((hget_put_ne (by omega)).trans (rfl)))))))))))))))))))), hi_put hw9, em9]
  obtain ⟨w17, hw17, -⟩ := hOK_get (i := 17) (T := T) (h := h20) (q := q) ok20.1 hq_q (by decide)
  have B17 : hi h83 q 17 = hi h m 17 := by rw [hi_eq (show hget h83 q 17 = hget (hput h20 q 17 (.inl (.int m17))) q 17 from (F83 _ _ (by omega)).trans ((F76 _ _ (by omega)).trans ((F69 _ _ (by omega)).trans ((F62 _ _ (by omega)).trans ((F55 _ _ (by omega)).trans ((hget_put_ne (by omega)).trans ((F48 _ _ (by omega)).trans ((F43 _ _ (by omega)).trans ((F38 _ _ (by omega)).trans ((F33 _ _ (by omega)).trans ((F28 _ _ (by omega)).trans (rfl)))))))))))), hi_put hw17, em17]
  have P28 : ∀ p i : Nat, T[p]? = some 28 → hget h83 p i = hget h p i := fun p i hp => by
    have n0 : p ≠ q := ty_ne hp hq_q (by decide)
    have n1 : ∀ o ∈ pOff, o.2.2 ≠ 28 → p ≠ q + o.2.1 := fun o ho hne => ty_ne hp (lay.1 o ho).2 (Ne.symm hne)
    have n17 : p ≠ q + 17 := n1 (16, 17, 31) (by decide +kernel) (by decide)
    have n18 : p ≠ q + 18 := n1 (18, 18, 32) (by decide +kernel) (by decide)
    have n19 : p ≠ q + 19 := n1 (19, 19, 33) (by decide +kernel) (by decide)
    have n20 : p ≠ q + 20 := n1 (20, 20, 34) (by decide +kernel) (by decide)
    have n21 : p ≠ q + 21 := n1 (21, 21, 35) (by decide +kernel) (by decide)
    have n22 : p ≠ q + 22 := n1 (22, 22, 36) (by decide +kernel) (by decide)
    have n23 : p ≠ q + 23 := n1 (24, 23, 37) (by decide +kernel) (by decide)
    have nr0 : p ≠ q + (25 + 0) := ty_ne hp (lay.2.2 0 (by decide)).2 (by decide)
    have nr1 : p ≠ q + (25 + 1) := ty_ne hp (lay.2.2 1 (by decide)).2 (by decide)
    have nr2 : p ≠ q + (25 + 2) := ty_ne hp (lay.2.2 2 (by decide)).2 (by decide)
    have nr3 : p ≠ q + (25 + 3) := ty_ne hp (lay.2.2 3 (by decide)).2 (by decide)
    exact (F83 _ _ (by omega)).trans ((F76 _ _ (by omega)).trans ((F69 _ _ (by omega)).trans ((F62 _ _ (by omega)).trans ((F55 _ _ (by omega)).trans ((hget_put_ne (by omega)).trans ((F48 _ _ (by omega)).trans ((F43 _ _ (by omega)).trans ((F38 _ _ (by omega)).trans ((F33 _ _ (by omega)).trans ((F28 _ _ (by omega)).trans ((hget_put_ne (by omega)).trans ((F20 _ _ (by omega)).trans ((hget_put_ne (by omega)).trans ((hget_put_ne (by omega)).trans ((hget_put_ne (by omega)).trans ((hget_put_ne (by omega)).trans ((hget_put_ne (by omega)).trans ((hget_put_ne (by omega)).trans ((hget_put_ne (by omega)).trans (rfl))))))))))))))))))))
  refine zret_v rfl (kk h83 ⟨ok83.1, ?_, ok83.2.2⟩ P28 (fun i => (F83 _ _ (by omega)).trans ((F76 _ _ (by omega)).trans ((F69 _ _ (by omega)).trans ((F62 _ _ (by omega)).trans ((F55 _ _ (by omega)).trans ((hget_put_ne (by omega)).trans ((F48 _ _ (by omega)).trans ((F43 _ _ (by omega)).trans ((F38 _ _ (by omega)).trans ((F33 _ _ (by omega)).trans ((F28 _ _ (by omega)).trans ((hget_put_ne (by omega)).trans ((F20 _ _ (by omega)).trans ((hget_put_ne (by omega)).trans ((hget_put_ne (by omega)).trans ((hget_put_ne (by omega)).trans ((hget_put_ne (by omega)).trans ((hget_put_ne (by omega)).trans ((hget_put_ne (by omega)).trans ((hget_put_ne (by omega)).trans (rfl))))))))))))))))))))))
  refine p_keep2 hq_q (by decide) (fun p σ i h1 h2 h3 => ?_) ?_ ok0.2.1
  · by_cases e0 : p = q
    · subst e0
      rw [hq_q] at h1
      cases h1
      have n : i ≠ 9 ∧ i ≠ 17 := ⟨fun e => h3 (Or.inl ⟨rfl, by decide, Or.inl e⟩), fun e => h3 (Or.inl ⟨rfl, by decide, Or.inr e⟩)⟩
      have nn : i ≠ 10 ∧ i ≠ 11 ∧ i ≠ 12 ∧ i ≠ 13 ∧ i ≠ 14 ∧ i ≠ 15 ∧ i ≠ 23 := ⟨fun e => (by subst e; cases h2), fun e => (by subst e; cases h2), fun e => (by subst e; cases h2), fun e => (by subst e; cases h2), fun e => (by subst e; cases h2), fun e => (by subst e; cases h2), fun e => (by subst e; cases h2)⟩
      exact (F83 _ _ (by omega)).trans ((F76 _ _ (by omega)).trans ((F69 _ _ (by omega)).trans ((F62 _ _ (by omega)).trans ((F55 _ _ (by omega)).trans ((hget_put_ne (by omega)).trans ((F48 _ _ (by omega)).trans ((F43 _ _ (by omega)).trans ((F38 _ _ (by omega)).trans ((F33 _ _ (by omega)).trans ((F28 _ _ (by omega)).trans ((hget_put_ne (by omega)).trans ((F20 _ _ (by omega)).trans ((hget_put_ne (by omega)).trans ((hget_put_ne (by omega)).trans ((hget_put_ne (by omega)).trans ((hget_put_ne (by omega)).trans ((hget_put_ne (by omega)).trans ((hget_put_ne (by omega)).trans ((hget_put_ne (by omega)).trans (rfl))))))))))))))))))))
    · have own : p ≠ q + 17 ∧ p ≠ q + 19 ∧ p ≠ q + 22 := ⟨fun e => h3 (Or.inr (Or.inl ⟨e, by subst e; rw [(lay.1 (16, 17, 31) (by decide +kernel)).2] at h1; cases h1; rfl⟩)), fun e => h3 (Or.inr (Or.inr (Or.inl ⟨e, by subst e; rw [(lay.1 (19, 19, 33) (by decide +kernel)).2] at h1; cases h1; rfl⟩))), fun e => h3 (Or.inr (Or.inr (Or.inr ⟨e, by subst e; rw [(lay.1 (22, 22, 36) (by decide +kernel)).2] at h1; cases h1; rfl⟩)))⟩
      have n18 : p ≠ q + 18 := fun e => by subst e; rw [(lay.1 (18, 18, 32) (by decide +kernel)).2] at h1; cases h1; cases h2
      have n20 : p ≠ q + 20 := fun e => by subst e; rw [(lay.1 (20, 20, 34) (by decide +kernel)).2] at h1; cases h1; cases h2
      have n21 : p ≠ q + 21 := fun e => by subst e; rw [(lay.1 (21, 21, 35) (by decide +kernel)).2] at h1; cases h1; cases h2
      have n23 : p ≠ q + 23 := fun e => by subst e; rw [(lay.1 (24, 23, 37) (by decide +kernel)).2] at h1; cases h1; cases h2
      have nr0 : p ≠ q + (25 + 0) := fun e => by subst e; rw [(lay.2.2 0 (by decide)).2] at h1; cases h1; cases h2
      have nr1 : p ≠ q + (25 + 1) := fun e => by subst e; rw [(lay.2.2 1 (by decide)).2] at h1; cases h1; cases h2
      have nr2 : p ≠ q + (25 + 2) := fun e => by subst e; rw [(lay.2.2 2 (by decide)).2] at h1; cases h1; cases h2
      have nr3 : p ≠ q + (25 + 3) := fun e => by subst e; rw [(lay.2.2 3 (by decide)).2] at h1; cases h1; cases h2
      exact (F83 _ _ (by omega)).trans ((F76 _ _ (by omega)).trans ((F69 _ _ (by omega)).trans ((F62 _ _ (by omega)).trans ((F55 _ _ (by omega)).trans ((hget_put_ne (by omega)).trans ((F48 _ _ (by omega)).trans ((F43 _ _ (by omega)).trans ((F38 _ _ (by omega)).trans ((F33 _ _ (by omega)).trans ((F28 _ _ (by omega)).trans ((hget_put_ne (by omega)).trans ((F20 _ _ (by omega)).trans ((hget_put_ne (by omega)).trans ((hget_put_ne (by omega)).trans ((hget_put_ne (by omega)).trans ((hget_put_ne (by omega)).trans ((hget_put_ne (by omega)).trans ((hget_put_ne (by omega)).trans ((hget_put_ne (by omega)).trans (rfl))))))))))))))))))))
  · intro t ht
    rw [B17] at ht
    have t8 : t < 8 := by omega
    have hj := hJm t ht
    rw [B9, hi_eq2 (A19 t t8), hi_eq2 (A22 t t8)]
    refine ⟨hj.1, fun h2 => ?_, fun u hu => ?_⟩
    · rw [hi_eq2 (A17 _ (by omega))]
      exact hj.2.1 h2
    · rw [hi_eq2 (A19 u (by omega))]
      exact hj.2.2 u hu
