section
variable {ty : Nat → tTy} {tB : Nat} {prog : Nat → Option zE} {sm : Nat → List tE} {hts : Nat → Nat} {fx : List Nat} {D0 nL rc rs N0 : Nat} {scr : List zV} {cc : zK} {Φ : List Nat → zH → Prop} {G : zS → Prop} {L0 L : zL} {T0 T : List Nat} {K : tK} {aL : tL} {st : List tA} {stk : List zV} {h : zH} {pc nc ns : Nat}
theorem tI_ok (x : Int32) : okA T (tI x.toInt x.toInt) (.inl (.int x)) ∧ okTag L (tI x.toInt x.toInt) (.inl (.int x)) := ⟨okA_I (Int.le_refl _) (Int.le_refl _), okTag_plain (tplain_I _ _)⟩
theorem tJ_ok (x : Int64) : okA T ((1, x.toInt, x.toInt, 0, []) : tA) (.inl (.long x)) ∧ okTag L ((1, x.toInt, x.toInt, 0, []) : tA) (.inl (.long x)) := ⟨⟨x, rfl, Int.le_refl _, Int.le_refl _⟩, okTag_none (Or.inl rfl) rfl⟩
/-- what a write to a cell keeps -/
theorem twr (KG : ∀ (T : List Nat) (pc : Nat) (aL : tL) (st : List tA) (nc ns : Nat) (x : zS), x.1 = pc → K pc aL st nc ns = true → tSt ty Φ fx L0 N0 T0 T aL st nc ns x → G x) (hS : tSt ty Φ fx L0 N0 T0 T aL st nc ns (pc, L, stk, h, nc, ns)) (hst : tStab ty tB Φ) {pc' q τ : Nat} {st' : List tA} {stk' vs vs' : List zV} (hk : K pc' aL st' nc ns = true) (hr : okSt T L st' stk') (hq : T[q]? = some τ) (hv : h[q]? = some ((ty τ).1, vs)) (hl : vs'.length = vs.length) (hw : ∀ i, ((ty τ).2.2 i).2.2.2.2 = false → vs'[i]? = vs[i]?) (hs : ∀ (i : Nat) (v : zV), vs'[i]? = some v → okS T ((ty τ).2.2 i) v) :
    zB (G (pc', L, stk', h.set q ((ty τ).1, vs'), nc, ns)) = true :=
  zB_iff.mpr (KG T pc' aL st' nc ns _ rfl hk ⟨hS.1, hr, hOK_set hS.2.2.1 hq hv hl hs, hst.1 T h q τ vs vs' hS.2.2.1 hS.2.2.2.1 hq hv hl hw hs, by show (h.set q _).length ≤ _; rw [List.length_set]; exact hS.2.2.2.2.1, rfl, rfl, hS.2.2.2.2.2.2.2⟩)
theorem tset_s {τ i : Nat} {v : zV} {vs : List zV} (hv : okS T ((ty τ).2.2 i) v) (hs : ∀ (i : Nat) (v : zV), vs[i]? = some v → okS T ((ty τ).2.2 i) v) : ∀ (j : Nat) (w : zV), (vs.set i v)[j]? = some w → okS T ((ty τ).2.2 j) w := fun j w hw => by
  rcases zset_get hw with ⟨rfl, rfl⟩ | ⟨hne, hj⟩
  · exact hv
  · exact hs j w hj
theorem tset_w {τ i : Nat} {v : zV} {vs : List zV} (hv : ((ty τ).2.2 i).2.2.2.2 = true) : ∀ j, ((ty τ).2.2 j).2.2.2.2 = false → (vs.set i v)[j]? = vs[j]? := fun j hj => by
  have : i ≠ j := fun e => by
    subst e
    rw [hv] at hj
    cases hj
  exact List.getElem?_set_ne this
theorem tstep_sound (KG : ∀ (T : List Nat) (pc : Nat) (aL : tL) (st : List tA) (nc ns : Nat) (x : zS), x.1 = pc → K pc aL st nc ns = true → tSt ty Φ fx L0 N0 T0 T aL st nc ns x → G x) (hS : tSt ty Φ fx L0 N0 T0 T aL st nc ns (pc, L, stk, h, nc, ns)) (hf0 : ∀ k ∈ fx, ∃ x : Int32, zget L0 k = some (.inl (.int x))) (hN : N0 + rc ≤ 1000000) (hst : tStab ty tB Φ) (hsm : ∀ (j : Nat) (E : zE) (e : tE), prog j = some E → e ∈ sm j → hts j ≤ D0 → tCon ty Φ E cc j e) {ins : Instr} {cv : zV} {a b c : Nat}
    (ht : tstep ty tB prog sm hts fx D0 nL rc rs K ins cv a b c pc aL st nc ns = true) : zstep zNf zdfl zslen prog nL rc rs scr cc (fun y => zB (G y)) ins cv a b c pc L stk h nc ns = true := by
  have hL : okL T aL L := hS.1
  have hSt : okSt T L st stk := hS.2.1
  have hOk : hOK ty T h := hS.2.2.1
  have hlen : h.length ≤ N0 + nc := hS.2.2.2.2.1
  have hq6 : ∀ q τ : Nat, T[q]? = some τ → q < 1000000 := fun q τ hq => by
    have h1 := (List.getElem?_eq_some_iff.mp hq).1
    have h2 := hOk.1
    have h3 := hOk.2.1
    omega
  cases ins <;> try (exact absurd ht Bool.false_ne_true)
  case iconst n => exact tpu KG hS ht ⟨tI_ok _, hSt⟩
  case bipush n => exact tpu KG hS ht ⟨tI_ok _, hSt⟩
  case sipush n => exact tpu KG hS ht ⟨tI_ok _, hSt⟩
  case lconst n => exact tpu KG hS ht ⟨tJ_ok _, hSt⟩
  case iload_n k =>
    simp only [tstep] at ht
    obtain ⟨w, h1, h2, h3⟩ := tld_sp ht
    obtain ⟨v, g1, g2⟩ := tget_ok hL h1
    have g3 := tpush_ok g2 g1
    obtain ⟨x, rfl, -⟩ := tint_sp h2 g2
    exact zld_mk g1 rfl (tpu KG hS h3 ⟨g3, hSt⟩)
  case iload k =>
    simp only [tstep] at ht
    obtain ⟨w, h1, h2, h3⟩ := tld_sp ht
    obtain ⟨v, g1, g2⟩ := tget_ok hL h1
    have g3 := tpush_ok g2 g1
    obtain ⟨x, rfl, -⟩ := tint_sp h2 g2
    exact zld_mk g1 rfl (tpu KG hS h3 ⟨g3, hSt⟩)
  case lload_n k =>
    simp only [tstep] at ht
    obtain ⟨w, h1, h2, h3⟩ := tld_sp ht
    obtain ⟨v, g1, g2⟩ := tget_ok hL h1
    have g3 := tpush_ok g2 g1
    obtain ⟨x, rfl, -⟩ := tlong_sp h2 g2
    exact zld_mk g1 rfl (tpu KG hS h3 ⟨g3, hSt⟩)
  case lload k =>
    simp only [tstep] at ht
    obtain ⟨w, h1, h2, h3⟩ := tld_sp ht
    obtain ⟨v, g1, g2⟩ := tget_ok hL h1
    have g3 := tpush_ok g2 g1
    obtain ⟨x, rfl, -⟩ := tlong_sp h2 g2
    exact zld_mk g1 rfl (tpu KG hS h3 ⟨g3, hSt⟩)
  case aload_n k =>
    simp only [tstep] at ht
    obtain ⟨w, h1, h2, h3⟩ := tld_sp ht
    obtain ⟨v, g1, g2⟩ := tget_ok hL h1
    have g3 := tpush_ok g2 g1
    obtain ⟨x, rfl⟩ := tisR_sp h2 g2
    exact zld_mk g1 rfl (tpu KG hS h3 ⟨g3, hSt⟩)
  case aload k =>
    simp only [tstep] at ht
    obtain ⟨w, h1, h2, h3⟩ := tld_sp ht
    obtain ⟨v, g1, g2⟩ := tget_ok hL h1
    have g3 := tpush_ok g2 g1
    obtain ⟨x, rfl⟩ := tisR_sp h2 g2
    exact zld_mk g1 rfl (tpu KG hS h3 ⟨g3, hSt⟩)
  case istore_n k =>
    simp only [tstep] at ht
    obtain ⟨w, r, rfl, h2, h3, h4, h5⟩ := tst_sp ht
    obtain ⟨v, vs', rfl, g1, g2, g3⟩ := okSt_cons hSt
    obtain ⟨x, rfl, -⟩ := tint_sp h2 g1
    simp only [zstep]
    refine zs1_mk rfl h3 ?_
    exact tlc1 KG hS hf0 h5 g1 h4 g3
  case istore k =>
    simp only [tstep] at ht
    obtain ⟨w, r, rfl, h2, h3, h4, h5⟩ := tst_sp ht
    obtain ⟨v, vs', rfl, g1, g2, g3⟩ := okSt_cons hSt
    obtain ⟨x, rfl, -⟩ := tint_sp h2 g1
    simp only [zstep]
    refine zs1_mk rfl h3 ?_
    exact tlc1 KG hS hf0 h5 g1 h4 g3
  case astore_n k =>
    simp only [tstep] at ht
    obtain ⟨w, r, rfl, h2, h3, h4, h5⟩ := tst_sp ht
    obtain ⟨v, vs', rfl, g1, g2, g3⟩ := okSt_cons hSt
    obtain ⟨x, rfl⟩ := tisR_sp h2 g1
    simp only [zstep]
    refine zs1_mk rfl h3 ?_
    exact tlc1 KG hS hf0 h5 g1 h4 g3
  case astore k =>
    simp only [tstep] at ht
    obtain ⟨w, r, rfl, h2, h3, h4, h5⟩ := tst_sp ht
    obtain ⟨v, vs', rfl, g1, g2, g3⟩ := okSt_cons hSt
    obtain ⟨x, rfl⟩ := tisR_sp h2 g1
    simp only [zstep]
    refine zs1_mk rfl h3 ?_
    exact tlc1 KG hS hf0 h5 g1 h4 g3
  case lstore_n k =>
    simp only [tstep] at ht
    obtain ⟨w, r, rfl, h2, h3, h4, h6, h5⟩ := tst2_sp ht
    obtain ⟨v, vs', rfl, g1, g2, g3⟩ := okSt_cons hSt
    have g4 := g1
    obtain ⟨x, rfl, -⟩ := tlong_sp h2 g1
    simp only [zstep]
    refine zs2_mk rfl h3 ?_
    exact tlc2 KG hS hf0 h5 g4 h2 h4 h6 g3
  case lstore k =>
    simp only [tstep] at ht
    obtain ⟨w, r, rfl, h2, h3, h4, h6, h5⟩ := tst2_sp ht
    obtain ⟨v, vs', rfl, g1, g2, g3⟩ := okSt_cons hSt
    have g4 := g1
    obtain ⟨x, rfl, -⟩ := tlong_sp h2 g1
    simp only [zstep]
    refine zs2_mk rfl h3 ?_
    exact tlc2 KG hS hf0 h5 g4 h2 h4 h6 g3
  case iinc k n =>
    simp only [tstep] at ht
    split at ht
    · next w hw =>
      obtain ⟨h1, ht⟩ := z_and ht
      obtain ⟨h2, ht⟩ := z_and ht
      obtain ⟨h3, ht⟩ := z_and ht
      obtain ⟨v, g1, g2⟩ := tget_ok hL hw
      obtain ⟨x, rfl, b1⟩ := tint_sp h1 g2
      have g4 : okA T (tadd w (tI (Int32.ofInt n).toInt (Int32.ofInt n).toInt)) (.inl (.int (x + Int32.ofInt n))) := tadd_ok b1 ⟨Int.le_refl _, Int.le_refl _⟩
      simp only [zstep, g1]
      exact t_and2 h2 (tlc1 KG hS hf0 ht g4 (by simpa using h3) hSt)
    · cases ht
  case iadd =>
    simp only [tstep] at ht
    obtain ⟨y0, x0, r, rfl, h1, h2, h3⟩ := tbin_sp ht
    obtain ⟨vy, vs1, rfl, gy, -, g3⟩ := okSt_cons hSt
    obtain ⟨vx, vs2, rfl, gx, -, g5⟩ := okSt_cons g3
    obtain ⟨x, rfl, ha⟩ := tint_sp h1 gx
    obtain ⟨y, rfl, hb⟩ := tint_sp h2 gy
    exact tpu KG hS h3 ⟨⟨tadd_ok ha hb, okTag_plain (tplain_add _ _)⟩, g5⟩
  case isub =>
    simp only [tstep] at ht
    obtain ⟨y0, x0, r, rfl, h1, h2, h3⟩ := tbin_sp ht
    obtain ⟨vy, vs1, rfl, gy, -, g3⟩ := okSt_cons hSt
    obtain ⟨vx, vs2, rfl, gx, -, g5⟩ := okSt_cons g3
    obtain ⟨x, rfl, ha⟩ := tint_sp h1 gx
    obtain ⟨y, rfl, hb⟩ := tint_sp h2 gy
    exact tpu KG hS h3 ⟨⟨tsub_ok ha hb, okTag_plain (tplain_sub _ _)⟩, g5⟩
  case imul =>
    simp only [tstep] at ht
    obtain ⟨y0, x0, r, rfl, h1, h2, h3⟩ := tbin_sp ht
    obtain ⟨vy, vs1, rfl, gy, -, g3⟩ := okSt_cons hSt
    obtain ⟨vx, vs2, rfl, gx, -, g5⟩ := okSt_cons g3
    obtain ⟨x, rfl, ha⟩ := tint_sp h1 gx
    obtain ⟨y, rfl, hb⟩ := tint_sp h2 gy
    exact tpu KG hS h3 ⟨⟨tmul_ok ha hb, okTag_plain (tplain_mul _ _)⟩, g5⟩
  case iand =>
    simp only [tstep] at ht
    obtain ⟨y0, x0, r, rfl, h1, h2, h3⟩ := tbin_sp ht
    obtain ⟨vy, vs1, rfl, gy, -, g3⟩ := okSt_cons hSt
    obtain ⟨vx, vs2, rfl, gx, -, g5⟩ := okSt_cons g3
    obtain ⟨x, rfl, ha⟩ := tint_sp h1 gx
    obtain ⟨y, rfl, hb⟩ := tint_sp h2 gy
    exact tpu KG hS h3 ⟨⟨tand_ok ha hb, okTag_plain (tplain_and _ _)⟩, g5⟩
  case ior =>
    simp only [tstep] at ht
    obtain ⟨y0, x0, r, rfl, h1, h2, h3⟩ := tbin_sp ht
    obtain ⟨vy, vs1, rfl, gy, -, g3⟩ := okSt_cons hSt
    obtain ⟨vx, vs2, rfl, gx, -, g5⟩ := okSt_cons g3
    obtain ⟨x, rfl, ha⟩ := tint_sp h1 gx
    obtain ⟨y, rfl, hb⟩ := tint_sp h2 gy
    exact tpu KG hS h3 ⟨⟨tor_ok ha hb, okTag_plain (tplain_or _ _)⟩, g5⟩
  case ixor =>
    simp only [tstep] at ht
    obtain ⟨y0, x0, r, rfl, h1, h2, h3⟩ := tbin_sp ht
    obtain ⟨vy, vs1, rfl, gy, -, g3⟩ := okSt_cons hSt
    obtain ⟨vx, vs2, rfl, gx, -, g5⟩ := okSt_cons g3
    obtain ⟨x, rfl, ha⟩ := tint_sp h1 gx
    obtain ⟨y, rfl, hb⟩ := tint_sp h2 gy
    exact tpu KG hS h3 ⟨⟨okA_If _, okTag_plain (tplain_f)⟩, g5⟩
  case ishl =>
    simp only [tstep] at ht
    obtain ⟨y0, x0, r, rfl, h1, h2, h3⟩ := tbin_sp ht
    obtain ⟨vy, vs1, rfl, gy, -, g3⟩ := okSt_cons hSt
    obtain ⟨vx, vs2, rfl, gx, -, g5⟩ := okSt_cons g3
    obtain ⟨x, rfl, ha⟩ := tint_sp h1 gx
    obtain ⟨y, rfl, hb⟩ := tint_sp h2 gy
    exact tpu KG hS h3 ⟨⟨tshl_ok ha hb, okTag_plain (tplain_shl _ _)⟩, g5⟩
  case ishr =>
    simp only [tstep] at ht
    obtain ⟨y0, x0, r, rfl, h1, h2, h3⟩ := tbin_sp ht
    obtain ⟨vy, vs1, rfl, gy, -, g3⟩ := okSt_cons hSt
    obtain ⟨vx, vs2, rfl, gx, -, g5⟩ := okSt_cons g3
    obtain ⟨x, rfl, ha⟩ := tint_sp h1 gx
    obtain ⟨y, rfl, hb⟩ := tint_sp h2 gy
    exact tpu KG hS h3 ⟨⟨tshr_ok ha, okTag_plain (tplain_shr _)⟩, g5⟩
  case iushr =>
    simp only [tstep] at ht
    obtain ⟨y0, x0, r, rfl, h1, h2, h3⟩ := tbin_sp ht
    obtain ⟨vy, vs1, rfl, gy, -, g3⟩ := okSt_cons hSt
    obtain ⟨vx, vs2, rfl, gx, -, g5⟩ := okSt_cons g3
    obtain ⟨x, rfl, ha⟩ := tint_sp h1 gx
    obtain ⟨y, rfl, hb⟩ := tint_sp h2 gy
    exact tpu KG hS h3 ⟨⟨okA_If _, okTag_plain (tplain_f)⟩, g5⟩
  case idiv =>
    simp only [tstep] at ht
    split at ht
    · next y0 x0 r =>
      obtain ⟨h1, ht⟩ := z_and ht
      obtain ⟨h2, ht⟩ := z_and ht
      obtain ⟨h3, ht⟩ := z_and ht
      have h3 := of_decide_eq_true h3
      obtain ⟨vy, vs1, rfl, gy, -, g3⟩ := okSt_cons hSt
      obtain ⟨vx, vs2, rfl, gx, -, g5⟩ := okSt_cons g3
      obtain ⟨x, rfl, ha⟩ := tint_sp h1 gx
      obtain ⟨y, rfl, hb⟩ := tint_sp h2 gy
      have hy : (!(y == 0)) = true := by
        have : y ≠ 0 := fun e => by
          subst e
          have h0 : (0 : Int32).toInt = 0 := rfl
          omega
        simpa using this
      exact t_and2 hy (tpu KG hS ht ⟨⟨tdiv_ok ha hb, okTag_plain (tplain_div _ _)⟩, g5⟩)
    · cases ht
  case irem =>
    simp only [tstep] at ht
    split at ht
    · next y0 x0 r =>
      obtain ⟨h1, ht⟩ := z_and ht
      obtain ⟨h2, ht⟩ := z_and ht
      obtain ⟨h3, ht⟩ := z_and ht
      have h3 := of_decide_eq_true h3
      obtain ⟨vy, vs1, rfl, gy, -, g3⟩ := okSt_cons hSt
      obtain ⟨vx, vs2, rfl, gx, -, g5⟩ := okSt_cons g3
      obtain ⟨x, rfl, ha⟩ := tint_sp h1 gx
      obtain ⟨y, rfl, hb⟩ := tint_sp h2 gy
      have hy : (!(y == 0)) = true := by
        have : y ≠ 0 := fun e => by
          subst e
          have h0 : (0 : Int32).toInt = 0 := rfl
          omega
        simpa using this
      exact t_and2 hy (tpu KG hS ht ⟨⟨trem_ok ha hb, okTag_plain (tplain_rem _ _)⟩, g5⟩)
    · cases ht
  case ldiv =>
    simp only [tstep] at ht
    split at ht
    · next y0 x0 r =>
      obtain ⟨h1, ht⟩ := z_and ht
      obtain ⟨h2, ht⟩ := z_and ht
      obtain ⟨h3, ht⟩ := z_and ht
      have h3 := of_decide_eq_true h3
      obtain ⟨vy, vs1, rfl, gy, -, g3⟩ := okSt_cons hSt
      obtain ⟨vx, vs2, rfl, gx, -, g5⟩ := okSt_cons g3
      obtain ⟨x, rfl, ha⟩ := tlong_sp h1 gx
      obtain ⟨y, rfl, hb⟩ := tlong_sp h2 gy
      have hy : (!(y == 0)) = true := by
        have : y ≠ 0 := fun e => by
          subst e
          have h0 : (0 : Int64).toInt = 0 := rfl
          omega
        simpa using this
      exact t_and2 hy (tpu KG hS ht ⟨⟨okA_Lf _, okTag_plain tplain_Lf⟩, g5⟩)
    · cases ht
  case ineg =>
    simp only [tstep] at ht
    obtain ⟨x0, r, rfl, h1, h3⟩ := tun_sp ht
    obtain ⟨vx, vs2, rfl, gx, -, g5⟩ := okSt_cons hSt
    obtain ⟨x, rfl, ha⟩ := tint_sp h1 gx
    exact tpu KG hS h3 ⟨⟨tneg_ok ha, okTag_plain (tplain_c _ _)⟩, g5⟩
  case i2b =>
    simp only [tstep] at ht
    obtain ⟨x0, r, rfl, h1, h3⟩ := tun_sp ht
    obtain ⟨vx, vs2, rfl, gx, -, g5⟩ := okSt_cons hSt
    obtain ⟨x, rfl, ha⟩ := tint_sp h1 gx
    exact tpu KG hS h3 ⟨⟨okA_I (by sorry) (by sorry), okTag_plain (tplain_I _ _)⟩, g5⟩
  case i2s =>
    simp only [tstep] at ht
    obtain ⟨x0, r, rfl, h1, h3⟩ := tun_sp ht
    obtain ⟨vx, vs2, rfl, gx, -, g5⟩ := okSt_cons hSt
    obtain ⟨x, rfl, ha⟩ := tint_sp h1 gx
    exact tpu KG hS h3 ⟨⟨okA_I (by sorry) (by sorry), okTag_plain (tplain_I _ _)⟩, g5⟩
  case ladd =>
    simp only [tstep] at ht
    obtain ⟨y0, x0, r, rfl, h1, h2, h3⟩ := tbinL_sp ht
    obtain ⟨vy, vs1, rfl, gy, -, g3⟩ := okSt_cons hSt
    obtain ⟨vx, vs2, rfl, gx, -, g5⟩ := okSt_cons g3
    obtain ⟨x, rfl, ha⟩ := tlong_sp h1 gx
    obtain ⟨y, rfl, hb⟩ := tlong_sp h2 gy
    exact tpu KG hS h3 ⟨⟨okA_Lf _, okTag_plain tplain_Lf⟩, g5⟩
  case lsub =>
    simp only [tstep] at ht
    obtain ⟨y0, x0, r, rfl, h1, h2, h3⟩ := tbinL_sp ht
    obtain ⟨vy, vs1, rfl, gy, -, g3⟩ := okSt_cons hSt
    obtain ⟨vx, vs2, rfl, gx, -, g5⟩ := okSt_cons g3
    obtain ⟨x, rfl, ha⟩ := tlong_sp h1 gx
    obtain ⟨y, rfl, hb⟩ := tlong_sp h2 gy
    exact tpu KG hS h3 ⟨⟨okA_Lf _, okTag_plain tplain_Lf⟩, g5⟩
  case lmul =>
    simp only [tstep] at ht
    obtain ⟨y0, x0, r, rfl, h1, h2, h3⟩ := tbinL_sp ht
    obtain ⟨vy, vs1, rfl, gy, -, g3⟩ := okSt_cons hSt
    obtain ⟨vx, vs2, rfl, gx, -, g5⟩ := okSt_cons g3
    obtain ⟨x, rfl, ha⟩ := tlong_sp h1 gx
    obtain ⟨y, rfl, hb⟩ := tlong_sp h2 gy
    exact tpu KG hS h3 ⟨⟨okA_Lf _, okTag_plain tplain_Lf⟩, g5⟩
  case land =>
    simp only [tstep] at ht
    obtain ⟨y0, x0, r, rfl, h1, h2, h3⟩ := tbinL_sp ht
    obtain ⟨vy, vs1, rfl, gy, -, g3⟩ := okSt_cons hSt
    obtain ⟨vx, vs2, rfl, gx, -, g5⟩ := okSt_cons g3
    obtain ⟨x, rfl, ha⟩ := tlong_sp h1 gx
    obtain ⟨y, rfl, hb⟩ := tlong_sp h2 gy
    exact tpu KG hS h3 ⟨⟨okA_Lf _, okTag_plain tplain_Lf⟩, g5⟩
  case lor =>
    simp only [tstep] at ht
    obtain ⟨y0, x0, r, rfl, h1, h2, h3⟩ := tbinL_sp ht
    obtain ⟨vy, vs1, rfl, gy, -, g3⟩ := okSt_cons hSt
    obtain ⟨vx, vs2, rfl, gx, -, g5⟩ := okSt_cons g3
    obtain ⟨x, rfl, ha⟩ := tlong_sp h1 gx
    obtain ⟨y, rfl, hb⟩ := tlong_sp h2 gy
    exact tpu KG hS h3 ⟨⟨okA_Lf _, okTag_plain tplain_Lf⟩, g5⟩
  case lxor =>
    simp only [tstep] at ht
    obtain ⟨y0, x0, r, rfl, h1, h2, h3⟩ := tbinL_sp ht
    obtain ⟨vy, vs1, rfl, gy, -, g3⟩ := okSt_cons hSt
    obtain ⟨vx, vs2, rfl, gx, -, g5⟩ := okSt_cons g3
    obtain ⟨x, rfl, ha⟩ := tlong_sp h1 gx
    obtain ⟨y, rfl, hb⟩ := tlong_sp h2 gy
    exact tpu KG hS h3 ⟨⟨okA_Lf _, okTag_plain tplain_Lf⟩, g5⟩
  case lshl =>
    simp only [tstep] at ht
    obtain ⟨y0, x0, r, rfl, h1, h2, h3⟩ := tshL_sp ht
    obtain ⟨vy, vs1, rfl, gy, -, g3⟩ := okSt_cons hSt
    obtain ⟨vx, vs2, rfl, gx, -, g5⟩ := okSt_cons g3
    obtain ⟨x, rfl, ha⟩ := tlong_sp h1 gx
    obtain ⟨y, rfl, hb⟩ := tint_sp h2 gy
    exact tpu KG hS h3 ⟨⟨okA_Lf _, okTag_plain tplain_Lf⟩, g5⟩
  case lushr =>
    simp only [tstep] at ht
    obtain ⟨y0, x0, r, rfl, h1, h2, h3⟩ := tshL_sp ht
    obtain ⟨vy, vs1, rfl, gy, -, g3⟩ := okSt_cons hSt
    obtain ⟨vx, vs2, rfl, gx, -, g5⟩ := okSt_cons g3
    obtain ⟨x, rfl, ha⟩ := tlong_sp h1 gx
    obtain ⟨y, rfl, hb⟩ := tint_sp h2 gy
    exact tpu KG hS h3 ⟨⟨okA_Lf _, okTag_plain tplain_Lf⟩, g5⟩
  case i2l =>
    simp only [tstep] at ht
    split at ht
    · next x0 r =>
      obtain ⟨h1, ht⟩ := z_and ht
      obtain ⟨vx, vs2, rfl, gx, gt, g5⟩ := okSt_cons hSt
      obtain ⟨x, rfl, ha⟩ := tint_sp h1 gx
      have h0 : x0.1 = 0 := Nat.eq_of_beq_eq_true h1
      refine tpu KG hS ht ⟨⟨⟨x.toInt64, rfl, ?_, ?_⟩, ⟨fun k hk he => ?_, fun c hc => by cases hc⟩⟩, g5⟩
      · show tlo x0 ≤ x.toInt64.toInt
        rw [Int32.toInt_toInt64]
        exact ha.1
      · show x.toInt64.toInt ≤ thi x0
        rw [Int32.toInt_toInt64]
        exact ha.2
      · obtain ⟨y, h2, h3⟩ := gt.1 k (by omega) he
        refine ⟨y, h2, ?_⟩
        show x.toInt64.toInt = y.toInt
        rw [Int32.toInt_toInt64]
        exact h3
    · cases ht
  case l2i =>
    simp only [tstep] at ht
    split at ht
    · next x0 r =>
      obtain ⟨h1, ht⟩ := z_and ht
      obtain ⟨vx, vs2, rfl, gx, gt, g5⟩ := okSt_cons hSt
      obtain ⟨x, rfl, ha⟩ := tlong_sp h1 gx
      exact tpu KG hS ht ⟨⟨tl2i_ok ha, okTag_plain (tplain_l2i _)⟩, g5⟩
    · cases ht
  case lcmp =>
    simp only [tstep] at ht
    split at ht
    · next y0 x0 r =>
      obtain ⟨h1, ht⟩ := z_and ht
      obtain ⟨h2, ht⟩ := z_and ht
      obtain ⟨vy, vs1, rfl, gy, -, g3⟩ := okSt_cons hSt
      obtain ⟨vx, vs2, rfl, gx, -, g5⟩ := okSt_cons g3
      obtain ⟨x, rfl, ha⟩ := tlong_sp h1 gx
      obtain ⟨y, rfl, hb⟩ := tlong_sp h2 gy
      obtain ⟨z, hz, hz1, hz2⟩ := zcmp_ex x y
      refine t_and2 rfl (t_and2 rfl ?_)
      rw [hz]
      exact tpu KG hS ht ⟨⟨okA_I hz1 hz2, okTag_plain (tplain_I _ _)⟩, g5⟩
    · cases ht
  case dup =>
    simp only [tstep] at ht
    split at ht
    · next x0 r =>
      obtain ⟨h1, ht⟩ := z_and ht
      obtain ⟨vx, vs2, rfl, gx, gt, g5⟩ := okSt_cons hSt
      exact t_and2 (ncat h1 gx) (tpu KG hS ht ⟨⟨gx, gt⟩, ⟨gx, gt⟩, g5⟩)
    · cases ht
  case pop =>
    simp only [tstep] at ht
    split at ht
    · next x0 r =>
      obtain ⟨h1, ht⟩ := z_and ht
      obtain ⟨vx, vs2, rfl, gx, gt, g5⟩ := okSt_cons hSt
      exact t_and2 (ncat h1 gx) (tpu KG hS ht g5)
    · cases ht
  case dup2 =>
    simp only [tstep] at ht
    split at ht
    · next x0 y0 r =>
      obtain ⟨h1, ht⟩ := z_and ht
      obtain ⟨h2, ht⟩ := z_and ht
      obtain ⟨vx, vs1, rfl, gx, tx, g3⟩ := okSt_cons hSt
      obtain ⟨vy, vs2, rfl, gy, ty', g5⟩ := okSt_cons g3
      exact t_and2 (ncat h1 gx) (t_and2 (ncat h2 gy) (tpu KG hS ht ⟨⟨gx, tx⟩, ⟨gy, ty'⟩, ⟨gx, tx⟩, ⟨gy, ty'⟩, g5⟩))
    · cases ht
  case dup_x1 =>
    simp only [tstep] at ht
    split at ht
    · next x0 y0 r =>
      obtain ⟨h1, ht⟩ := z_and ht
      obtain ⟨h2, ht⟩ := z_and ht
      obtain ⟨vx, vs1, rfl, gx, tx, g3⟩ := okSt_cons hSt
      obtain ⟨vy, vs2, rfl, gy, ty', g5⟩ := okSt_cons g3
      exact t_and2 (ncat h1 gx) (t_and2 (ncat h2 gy) (tpu KG hS ht ⟨⟨gx, tx⟩, ⟨gy, ty'⟩, ⟨gx, tx⟩, g5⟩))
    · cases ht
  case ifCond cd off =>
    simp only [tstep] at ht
    split at ht
    · next x0 r =>
      obtain ⟨h1, ht⟩ := z_and ht
      obtain ⟨t, e1, ht⟩ := zof_sp ht
      obtain ⟨h2, h3⟩ := z_and ht
      obtain ⟨vx, vs2, rfl, gx, gt, g5⟩ := okSt_cons hSt
      obtain ⟨x, rfl, ha⟩ := tint_sp h1 gx
      have key : ∀ (cd' : ClassFile.Cond) (pc' : Nat), zop cd' x 0 → tbr cd' aL x0 (tI 0 0) (tknow cd' x0) (fun aL' => K pc' aL' r nc ns) = true → zB (G (pc', L, vs2, h, nc, ns)) = true := fun cd' pc' hc hk => by
        unfold tbr at hk
        obtain ⟨aL1, g6, g7⟩ := tcmp_ok hL gt (okTag_plain (tplain_I 0 0)) h1 rfl ha ⟨Int.le_refl _, Int.le_refl _⟩ hc hk
        have hcs : ∀ c ∈ tknow cd' x0, ∃ y : Int32, zget L c.1 = some (.inl (.int y)) ∧ c.2.1 ≤ y.toInt ∧ y.toInt ≤ c.2.2 := fun c hcc => by
          have hx0 : x ≠ 0 → c ∈ tcnd x0 → ∃ y : Int32, zget L c.1 = some (.inl (.int y)) ∧ c.2.1 ≤ y.toInt ∧ y.toInt ≤ c.2.2 := fun hne hm => gt.2 c hm (fun q => hne (by cases q; rfl))
          have h00 : ¬ (0 : Int32) < 0 := by decide
          cases cd' with
          | ne => exact hx0 hc hcc
          | gt => exact hx0 (fun q => by have hc : (0 : Int32) < x := hc; rw [q] at hc; exact h00 hc) hcc
          | lt => exact hx0 (fun q => by have hc : x < (0 : Int32) := hc; rw [q] at hc; exact h00 hc) hcc
          | eq => cases hcc
          | le => cases hcc
          | ge => cases hcc
        obtain ⟨aL2, g8, g9⟩ := tcutC_ok g6 hcs g7
        exact tlc KG hS g9 g8 g5
      exact t_and2 rfl (zof_mk e1 (zbr_ex (fun hc => key cd t hc h2) (fun hc => key (tneg cd) (pc + 3) (zop_neg hc) h3)))
    · cases ht
  case if_icmp cd off =>
    simp only [tstep] at ht
    split at ht
    · next y0 x0 r =>
      obtain ⟨h1, ht⟩ := z_and ht
      obtain ⟨h1', ht⟩ := z_and ht
      obtain ⟨t, e1, ht⟩ := zof_sp ht
      obtain ⟨h2, h3⟩ := z_and ht
      obtain ⟨vy, vs1, rfl, gy, ty', g3⟩ := okSt_cons hSt
      obtain ⟨vx, vs2, rfl, gx, tx, g5⟩ := okSt_cons g3
      obtain ⟨x, rfl, ha⟩ := tint_sp h1 gx
      obtain ⟨y, rfl, hb⟩ := tint_sp h1' gy
      have key : ∀ (cd' : ClassFile.Cond) (pc' : Nat), zop cd' x y → tbr cd' aL x0 y0 [] (fun aL' => K pc' aL' r nc ns) = true → zB (G (pc', L, vs2, h, nc, ns)) = true := fun cd' pc' hc hk => by
        unfold tbr at hk
        obtain ⟨aL1, g6, g7⟩ := tcmp_ok hL tx ty' h1 h1' ha hb hc hk
        exact tlc KG hS g7 g6 g5
      exact t_and2 rfl (t_and2 rfl (zof_mk e1 (zbr_ex (fun hc => key cd t hc h2) (fun hc => key (tneg cd) (pc + 3) (zop_neg hc) h3))))
    · cases ht
  case goto off =>
    simp only [tstep] at ht
    obtain ⟨t, e1, ht⟩ := zof_sp ht
    exact zof_mk e1 (tpu KG hS ht hSt)
  case ldc ix =>
    simp only [tstep] at ht
    split at ht
    · exact tpu KG hS ht ⟨tI_ok _, hSt⟩
    · exact tpu KG hS ht ⟨⟨rfl, okTag_none (Or.inr (by show 2 ≤ 4; omega)) rfl⟩, hSt⟩
    · cases ht
  case ldc_w ix =>
    simp only [tstep] at ht
    split at ht
    · exact tpu KG hS ht ⟨tI_ok _, hSt⟩
    · cases ht
  case ldc2_w ix =>
    simp only [tstep] at ht
    split at ht
    · exact tpu KG hS ht ⟨tJ_ok _, hSt⟩
    · cases ht
  case getstatic ix =>
    exact tpu KG hS ht ⟨⟨rfl, okTag_none (Or.inr (by show 2 ≤ 4; omega)) rfl⟩, hSt⟩
  all_goals sorry
end
