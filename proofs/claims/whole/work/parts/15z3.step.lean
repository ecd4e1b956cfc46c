section
variable {ty : Nat → tTy} {tB : Nat} {prog : Nat → Option zE} {sm : Nat → List tE} {hts : Nat → Nat} {fx : List Nat} {D0 nL rc rs N0 : Nat} {scr : List zV} {cc : zK} {Φ : List Nat → zH → Prop} {G : zS → Prop} {L0 L : zL} {T0 T : List Nat} {K : tK} {aL : tL} {st : List tA} {stk : List zV} {h : zH} {pc nc ns : Nat}
theorem tI_ok (x : Int32) : okA T (tI x.toInt x.toInt) (.inl (.int x)) ∧ okTag L (tI x.toInt x.toInt) (.inl (.int x)) := ⟨okA_I (Int.le_refl _) (Int.le_refl _), okTag_plain (tplain_I _ _)⟩
theorem tJ_ok (x : Int64) : okA T ((1, x.toInt, x.toInt, 0, []) : tA) (.inl (.long x)) ∧ okTag L ((1, x.toInt, x.toInt, 0, []) : tA) (.inl (.long x)) := ⟨⟨x, rfl, Int.le_refl _, Int.le_refl _⟩, okTag_none (Or.inl rfl) rfl⟩
/-- what a write to a cell keeps -/
theorem twr (KG : ∀ (T : List Nat) (pc : Nat) (aL : tL) (st : List tA) (nc ns : Nat) (x : zS), x.1 = pc → K pc aL st nc ns = true → tSt ty Φ fx L0 N0 rc T0 T aL st nc ns x → G x) (hS : tSt ty Φ fx L0 N0 rc T0 T aL st nc ns (pc, L, stk, h, nc, ns)) (hst : tStab ty tB Φ) {pc' q τ : Nat} {st' : List tA} {stk' vs vs' : List zV} (hk : K pc' aL st' nc ns = true) (hr : okSt T L st' stk') (hq : T[q]? = some τ) (hv : h[q]? = some ((ty τ).1, vs)) (hl : vs'.length = vs.length) (hw : ∀ i, ((ty τ).2.2 i).2.2.2.2 = false → vs'[i]? = vs[i]?) (hs : ∀ (i : Nat) (v : zV), vs'[i]? = some v → okS T ((ty τ).2.2 i) v) :
    zB (G (pc', L, stk', h.set q ((ty τ).1, vs'), nc, ns)) = true :=
  zB_iff.mpr (KG T pc' aL st' nc ns _ rfl hk ⟨hS.1, hr, hOK_set hS.2.2.1 hq hv hl hs, hst.1 T h q τ vs vs' hS.2.2.1 hS.2.2.2.1 hq hv hl hw hs, by show (h.set q _).length ≤ _; rw [List.length_set]; exact hS.2.2.2.2.1, rfl, rfl, hS.2.2.2.2.2.2.2⟩)
theorem tset_s {τ i : Nat} {v : zV} {vs : List zV} (hv : okS T ((ty τ).2.2 i) v) (hs : ∀ (i : Nat) (v : zV), vs[i]? = some v → okS T ((ty τ).2.2 i) v) : ∀ (j : Nat) (w : zV), (vs.set i v)[j]? = some w → okS T ((ty τ).2.2 j) w := fun j w hw => by
  rcases zset_get hw with ⟨rfl, rfl⟩ | ⟨hne, hj⟩
  · exact hv
  · exact hs j w hj
theorem tset_w {τ i : Nat} {v : zV} {vs : List zV} (hv : ((ty τ).2.2 i).2.2.2.2 = true) : ∀ j, ((ty τ).2.2 j).2.2.2.2 = false → (vs.set i v)[j]? = vs[j]? := fun j hj => by
  have : i ≠ j := fun e => by
    subst e
    rw [hv] at hj
    cases hj
  exact List.getElem?_set_ne this
theorem tstep_sound (KG : ∀ (T : List Nat) (pc : Nat) (aL : tL) (st : List tA) (nc ns : Nat) (x : zS), x.1 = pc → K pc aL st nc ns = true → tSt ty Φ fx L0 N0 rc T0 T aL st nc ns x → G x) (hS : tSt ty Φ fx L0 N0 rc T0 T aL st nc ns (pc, L, stk, h, nc, ns)) (hf0 : ∀ k ∈ fx, ∃ x : Int32, zget L0 k = some (.inl (.int x))) (hN : N0 + rc ≤ 1000000) (hst : tStab ty tB Φ) (hsm : ∀ (j : Nat) (E : zE) (e : tE), prog j = some E → e ∈ sm j → hts j ≤ D0 → tCon ty Φ E cc j e) {ins : Instr} {cv : zV} {a b c : Nat}
    (ht : tstep ty tB prog sm hts fx D0 nL rc rs K ins cv a b c pc aL st nc ns = true) : zstep zNf zdfl zslen prog nL rc rs scr cc (fun y => zB (G y)) ins cv a b c pc L stk h nc ns = true := by
  have hL : okL T aL L := hS.1
  have hSt : okSt T L st stk := hS.2.1
  have hOk : hOK ty T h := hS.2.2.1
  have hlen : h.length ≤ N0 + nc := hS.2.2.2.2.1
  have hq6 : ∀ q τ : Nat, T[q]? = some τ → q < 1000000 := fun q τ hq => by
    have h1 := (List.getElem?_eq_some_iff.mp hq).1
    have h2 := hOk.1
    have h3 := hOk.2.1
    omega
  cases ins <;> try (exact absurd ht Bool.false_ne_true)
  case iconst n => exact tpu KG hS ht ⟨tI_ok _, hSt⟩
  case bipush n => exact tpu KG hS ht ⟨tI_ok _, hSt⟩
  case sipush n => exact tpu KG hS ht ⟨tI_ok _, hSt⟩
  case lconst n => exact tpu KG hS ht ⟨tJ_ok _, hSt⟩
  case iload_n k =>
    simp only [tstep] at ht
    obtain ⟨w, h1, h2, h3⟩ := tld_sp ht
    obtain ⟨v, g1, g2⟩ := tget_ok hL h1
    have g3 := tpush_ok g2 g1
    obtain ⟨x, rfl, -⟩ := tint_sp h2 g2
    exact zld_mk g1 rfl (tpu KG hS h3 ⟨g3, hSt⟩)
  case iload k =>
    simp only [tstep] at ht
    obtain ⟨w, h1, h2, h3⟩ := tld_sp ht
    obtain ⟨v, g1, g2⟩ := tget_ok hL h1
    have g3 := tpush_ok g2 g1
    obtain ⟨x, rfl, -⟩ := tint_sp h2 g2
    exact zld_mk g1 rfl (tpu KG hS h3 ⟨g3, hSt⟩)
  case lload_n k =>
    simp only [tstep] at ht
    obtain ⟨w, h1, h2, h3⟩ := tld_sp ht
    obtain ⟨v, g1, g2⟩ := tget_ok hL h1
    have g3 := tpush_ok g2 g1
    obtain ⟨x, rfl, -⟩ := tlong_sp h2 g2
    exact zld_mk g1 rfl (tpu KG hS h3 ⟨g3, hSt⟩)
  case lload k =>
    simp only [tstep] at ht
    obtain ⟨w, h1, h2, h3⟩ := tld_sp ht
    obtain ⟨v, g1, g2⟩ := tget_ok hL h1
    have g3 := tpush_ok g2 g1
    obtain ⟨x, rfl, -⟩ := tlong_sp h2 g2
    exact zld_mk g1 rfl (tpu KG hS h3 ⟨g3, hSt⟩)
  case aload_n k =>
    simp only [tstep] at ht
    obtain ⟨w, h1, h2, h3⟩ := tld_sp ht
    obtain ⟨v, g1, g2⟩ := tget_ok hL h1
    have g3 := tpush_ok g2 g1
    obtain ⟨x, rfl⟩ := tisR_sp h2 g2
    exact zld_mk g1 rfl (tpu KG hS h3 ⟨g3, hSt⟩)
  case aload k =>
    simp only [tstep] at ht
    obtain ⟨w, h1, h2, h3⟩ := tld_sp ht
    obtain ⟨v, g1, g2⟩ := tget_ok hL h1
    have g3 := tpush_ok g2 g1
    obtain ⟨x, rfl⟩ := tisR_sp h2 g2
    exact zld_mk g1 rfl (tpu KG hS h3 ⟨g3, hSt⟩)
  case istore_n k =>
    simp only [tstep] at ht
    obtain ⟨w, r, rfl, h2, h3, h4, h5⟩ := tst_sp ht
    obtain ⟨v, vs', rfl, g1, g2, g3⟩ := okSt_cons hSt
    obtain ⟨x, rfl, -⟩ := tint_sp h2 g1
    simp only [zstep]
    refine zs1_mk rfl h3 ?_
    exact tlc1 KG hS hf0 h5 g1 h4 g3
  case istore k =>
    simp only [tstep] at ht
    obtain ⟨w, r, rfl, h2, h3, h4, h5⟩ := tst_sp ht
    obtain ⟨v, vs', rfl, g1, g2, g3⟩ := okSt_cons hSt
    obtain ⟨x, rfl, -⟩ := tint_sp h2 g1
    simp only [zstep]
    refine zs1_mk rfl h3 ?_
    exact tlc1 KG hS hf0 h5 g1 h4 g3
  case astore_n k =>
    simp only [tstep] at ht
    obtain ⟨w, r, rfl, h2, h3, h4, h5⟩ := tst_sp ht
    obtain ⟨v, vs', rfl, g1, g2, g3⟩ := okSt_cons hSt
    obtain ⟨x, rfl⟩ := tisR_sp h2 g1
    simp only [zstep]
    refine zs1_mk rfl h3 ?_
    exact tlc1 KG hS hf0 h5 g1 h4 g3
  case astore k =>
    simp only [tstep] at ht
    obtain ⟨w, r, rfl, h2, h3, h4, h5⟩ := tst_sp ht
    obtain ⟨v, vs', rfl, g1, g2, g3⟩ := okSt_cons hSt
    obtain ⟨x, rfl⟩ := tisR_sp h2 g1
    simp only [zstep]
    refine zs1_mk rfl h3 ?_
    exact tlc1 KG hS hf0 h5 g1 h4 g3
  case lstore_n k =>
    simp only [tstep] at ht
    obtain ⟨w, r, rfl, h2, h3, h4, h6, h5⟩ := tst2_sp ht
    obtain ⟨v, vs', rfl, g1, g2, g3⟩ := okSt_cons hSt
    have g4 := g1
    obtain ⟨x, rfl, -⟩ := tlong_sp h2 g1
    simp only [zstep]
    refine zs2_mk rfl h3 ?_
    exact tlc2 KG hS hf0 h5 g4 h2 h4 h6 g3
  case lstore k =>
    simp only [tstep] at ht
    obtain ⟨w, r, rfl, h2, h3, h4, h6, h5⟩ := tst2_sp ht
    obtain ⟨v, vs', rfl, g1, g2, g3⟩ := okSt_cons hSt
    have g4 := g1
    obtain ⟨x, rfl, -⟩ := tlong_sp h2 g1
    simp only [zstep]
    refine zs2_mk rfl h3 ?_
    exact tlc2 KG hS hf0 h5 g4 h2 h4 h6 g3
  case iinc k n =>
    simp only [tstep] at ht
    split at ht
    · next w hw =>
      obtain ⟨h1, ht⟩ := z_and ht
      obtain ⟨h2, ht⟩ := z_and ht
      obtain ⟨h3, ht⟩ := z_and ht
      obtain ⟨v, g1, g2⟩ := tget_ok hL hw
      obtain ⟨x, rfl, b1⟩ := tint_sp h1 g2
      have g4 : okA T (tadd w (tI (Int32.ofInt n).toInt (Int32.ofInt n).toInt)) (.inl (.int (x + Int32.ofInt n))) := tadd_ok b1 ⟨Int.le_refl _, Int.le_refl _⟩
      simp only [zstep, g1]
      exact t_and2 h2 (tlc1 KG hS hf0 ht g4 (by simpa using h3) hSt)
    · cases ht
  case iadd =>
    simp only [tstep] at ht
    obtain ⟨y0, x0, r, rfl, h1, h2, h3⟩ := tbin_sp ht
    obtain ⟨vy, vs1, rfl, gy, -, g3⟩ := okSt_cons hSt
    obtain ⟨vx, vs2, rfl, gx, -, g5⟩ := okSt_cons g3
    obtain ⟨x, rfl, ha⟩ := tint_sp h1 gx
    obtain ⟨y, rfl, hb⟩ := tint_sp h2 gy
    exact tpu KG hS h3 ⟨⟨tadd_ok ha hb, okTag_plain (tplain_add _ _)⟩, g5⟩
  case isub =>
    simp only [tstep] at ht
    obtain ⟨y0, x0, r, rfl, h1, h2, h3⟩ := tbin_sp ht
    obtain ⟨vy, vs1, rfl, gy, -, g3⟩ := okSt_cons hSt
    obtain ⟨vx, vs2, rfl, gx, -, g5⟩ := okSt_cons g3
    obtain ⟨x, rfl, ha⟩ := tint_sp h1 gx
    obtain ⟨y, rfl, hb⟩ := tint_sp h2 gy
    exact tpu KG hS h3 ⟨⟨tsub_ok ha hb, okTag_plain (tplain_sub _ _)⟩, g5⟩
  case imul =>
    simp only [tstep] at ht
    obtain ⟨y0, x0, r, rfl, h1, h2, h3⟩ := tbin_sp ht
    obtain ⟨vy, vs1, rfl, gy, -, g3⟩ := okSt_cons hSt
    obtain ⟨vx, vs2, rfl, gx, -, g5⟩ := okSt_cons g3
    obtain ⟨x, rfl, ha⟩ := tint_sp h1 gx
    obtain ⟨y, rfl, hb⟩ := tint_sp h2 gy
    exact tpu KG hS h3 ⟨⟨tmul_ok ha hb, okTag_plain (tplain_mul _ _)⟩, g5⟩
  case iand =>
    simp only [tstep] at ht
    obtain ⟨y0, x0, r, rfl, h1, h2, h3⟩ := tbin_sp ht
    obtain ⟨vy, vs1, rfl, gy, -, g3⟩ := okSt_cons hSt
    obtain ⟨vx, vs2, rfl, gx, -, g5⟩ := okSt_cons g3
    obtain ⟨x, rfl, ha⟩ := tint_sp h1 gx
    obtain ⟨y, rfl, hb⟩ := tint_sp h2 gy
    exact tpu KG hS h3 ⟨⟨tand_ok ha hb, okTag_plain (tplain_and _ _)⟩, g5⟩
  case ior =>
    simp only [tstep] at ht
    obtain ⟨y0, x0, r, rfl, h1, h2, h3⟩ := tbin_sp ht
    obtain ⟨vy, vs1, rfl, gy, -, g3⟩ := okSt_cons hSt
    obtain ⟨vx, vs2, rfl, gx, -, g5⟩ := okSt_cons g3
    obtain ⟨x, rfl, ha⟩ := tint_sp h1 gx
    obtain ⟨y, rfl, hb⟩ := tint_sp h2 gy
    exact tpu KG hS h3 ⟨⟨tor_ok ha hb, okTag_plain (tplain_or _ _)⟩, g5⟩
  case ixor =>
    simp only [tstep] at ht
    obtain ⟨y0, x0, r, rfl, h1, h2, h3⟩ := tbin_sp ht
    obtain ⟨vy, vs1, rfl, gy, -, g3⟩ := okSt_cons hSt
    obtain ⟨vx, vs2, rfl, gx, -, g5⟩ := okSt_cons g3
    obtain ⟨x, rfl, ha⟩ := tint_sp h1 gx
    obtain ⟨y, rfl, hb⟩ := tint_sp h2 gy
    exact tpu KG hS h3 ⟨⟨okA_If _, okTag_plain (tplain_f)⟩, g5⟩
  case ishl =>
    simp only [tstep] at ht
    obtain ⟨y0, x0, r, rfl, h1, h2, h3⟩ := tbin_sp ht
    obtain ⟨vy, vs1, rfl, gy, -, g3⟩ := okSt_cons hSt
    obtain ⟨vx, vs2, rfl, gx, -, g5⟩ := okSt_cons g3
    obtain ⟨x, rfl, ha⟩ := tint_sp h1 gx
    obtain ⟨y, rfl, hb⟩ := tint_sp h2 gy
    exact tpu KG hS h3 ⟨⟨tshl_ok ha hb, okTag_plain (tplain_shl _ _)⟩, g5⟩
  case ishr =>
    simp only [tstep] at ht
    obtain ⟨y0, x0, r, rfl, h1, h2, h3⟩ := tbin_sp ht
    obtain ⟨vy, vs1, rfl, gy, -, g3⟩ := okSt_cons hSt
    obtain ⟨vx, vs2, rfl, gx, -, g5⟩ := okSt_cons g3
    obtain ⟨x, rfl, ha⟩ := tint_sp h1 gx
    obtain ⟨y, rfl, hb⟩ := tint_sp h2 gy
    exact tpu KG hS h3 ⟨⟨tshr_ok ha, okTag_plain (tplain_shr _)⟩, g5⟩
  case iushr =>
    simp only [tstep] at ht
    obtain ⟨y0, x0, r, rfl, h1, h2, h3⟩ := tbin_sp ht
    obtain ⟨vy, vs1, rfl, gy, -, g3⟩ := okSt_cons hSt
    obtain ⟨vx, vs2, rfl, gx, -, g5⟩ := okSt_cons g3
    obtain ⟨x, rfl, ha⟩ := tint_sp h1 gx
    obtain ⟨y, rfl, hb⟩ := tint_sp h2 gy
    exact tpu KG hS h3 ⟨⟨okA_If _, okTag_plain (tplain_f)⟩, g5⟩
  case idiv =>
    simp only [tstep] at ht
    split at ht
    · next y0 x0 r =>
      obtain ⟨h1, ht⟩ := z_and ht
      obtain ⟨h2, ht⟩ := z_and ht
      obtain ⟨h3, ht⟩ := z_and ht
      have h3 := of_decide_eq_true h3
      obtain ⟨vy, vs1, rfl, gy, -, g3⟩ := okSt_cons hSt
      obtain ⟨vx, vs2, rfl, gx, -, g5⟩ := okSt_cons g3
      obtain ⟨x, rfl, ha⟩ := tint_sp h1 gx
      obtain ⟨y, rfl, hb⟩ := tint_sp h2 gy
      have hy : (!(y == 0)) = true := by
        have : y ≠ 0 := fun e => by
          subst e
          have h0 : (0 : Int32).toInt = 0 := rfl
          omega
        simpa using this
      exact t_and2 hy (tpu KG hS ht ⟨⟨tdiv_ok ha hb, okTag_plain (tplain_div _ _)⟩, g5⟩)
    · cases ht
  case irem =>
    simp only [tstep] at ht
    split at ht
    · next y0 x0 r =>
      obtain ⟨h1, ht⟩ := z_and ht
      obtain ⟨h2, ht⟩ := z_and ht
      obtain ⟨h3, ht⟩ := z_and ht
      have h3 := of_decide_eq_true h3
      obtain ⟨vy, vs1, rfl, gy, -, g3⟩ := okSt_cons hSt
      obtain ⟨vx, vs2, rfl, gx, -, g5⟩ := okSt_cons g3
      obtain ⟨x, rfl, ha⟩ := tint_sp h1 gx
      obtain ⟨y, rfl, hb⟩ := tint_sp h2 gy
      have hy : (!(y == 0)) = true := by
        have : y ≠ 0 := fun e => by
          subst e
          have h0 : (0 : Int32).toInt = 0 := rfl
          omega
        simpa using this
      exact t_and2 hy (tpu KG hS ht ⟨⟨trem_ok ha hb, okTag_plain (tplain_rem _ _)⟩, g5⟩)
    · cases ht
  case ldiv =>
    simp only [tstep] at ht
    split at ht
    · next y0 x0 r =>
      obtain ⟨h1, ht⟩ := z_and ht
      obtain ⟨h2, ht⟩ := z_and ht
      obtain ⟨h3, ht⟩ := z_and ht
      have h3 := of_decide_eq_true h3
      obtain ⟨vy, vs1, rfl, gy, -, g3⟩ := okSt_cons hSt
      obtain ⟨vx, vs2, rfl, gx, -, g5⟩ := okSt_cons g3
      obtain ⟨x, rfl, ha⟩ := tlong_sp h1 gx
      obtain ⟨y, rfl, hb⟩ := tlong_sp h2 gy
      have hy : (!(y == 0)) = true := by
        have : y ≠ 0 := fun e => by
          subst e
          have h0 : (0 : Int64).toInt = 0 := rfl
          omega
        simpa using this
      exact t_and2 hy (tpu KG hS ht ⟨⟨okA_Lf _, okTag_plain tplain_Lf⟩, g5⟩)
    · cases ht
  case ineg =>
    simp only [tstep] at ht
    obtain ⟨x0, r, rfl, h1, h3⟩ := tun_sp ht
    obtain ⟨vx, vs2, rfl, gx, -, g5⟩ := okSt_cons hSt
    obtain ⟨x, rfl, ha⟩ := tint_sp h1 gx
    exact tpu KG hS h3 ⟨⟨tneg_ok ha, okTag_plain (tplain_c _ _)⟩, g5⟩
  case i2b =>
    simp only [tstep] at ht
    obtain ⟨x0, r, rfl, h1, h3⟩ := tun_sp ht
    obtain ⟨vx, vs2, rfl, gx, -, g5⟩ := okSt_cons hSt
    obtain ⟨x, rfl, ha⟩ := tint_sp h1 gx
    exact tpu KG hS h3 ⟨⟨okA_I ((lg_i2b_range _).1) (by have := (lg_i2b_range x).2; omega), okTag_plain (tplain_I _ _)⟩, g5⟩
  case i2s =>
    simp only [tstep] at ht
    obtain ⟨x0, r, rfl, h1, h3⟩ := tun_sp ht
    obtain ⟨vx, vs2, rfl, gx, -, g5⟩ := okSt_cons hSt
    obtain ⟨x, rfl, ha⟩ := tint_sp h1 gx
    exact tpu KG hS h3 ⟨⟨okA_I ((lg_i2s_range _).1) (by have := (lg_i2s_range x).2; omega), okTag_plain (tplain_I _ _)⟩, g5⟩
  case ladd =>
    simp only [tstep] at ht
    obtain ⟨y0, x0, r, rfl, h1, h2, h3⟩ := tbinL_sp ht
    obtain ⟨vy, vs1, rfl, gy, -, g3⟩ := okSt_cons hSt
    obtain ⟨vx, vs2, rfl, gx, -, g5⟩ := okSt_cons g3
    obtain ⟨x, rfl, ha⟩ := tlong_sp h1 gx
    obtain ⟨y, rfl, hb⟩ := tlong_sp h2 gy
    exact tpu KG hS h3 ⟨⟨okA_Lf _, okTag_plain tplain_Lf⟩, g5⟩
  case lsub =>
    simp only [tstep] at ht
    obtain ⟨y0, x0, r, rfl, h1, h2, h3⟩ := tbinL_sp ht
    obtain ⟨vy, vs1, rfl, gy, -, g3⟩ := okSt_cons hSt
    obtain ⟨vx, vs2, rfl, gx, -, g5⟩ := okSt_cons g3
    obtain ⟨x, rfl, ha⟩ := tlong_sp h1 gx
    obtain ⟨y, rfl, hb⟩ := tlong_sp h2 gy
    exact tpu KG hS h3 ⟨⟨okA_Lf _, okTag_plain tplain_Lf⟩, g5⟩
  case lmul =>
    simp only [tstep] at ht
    obtain ⟨y0, x0, r, rfl, h1, h2, h3⟩ := tbinL_sp ht
    obtain ⟨vy, vs1, rfl, gy, -, g3⟩ := okSt_cons hSt
    obtain ⟨vx, vs2, rfl, gx, -, g5⟩ := okSt_cons g3
    obtain ⟨x, rfl, ha⟩ := tlong_sp h1 gx
    obtain ⟨y, rfl, hb⟩ := tlong_sp h2 gy
    exact tpu KG hS h3 ⟨⟨okA_Lf _, okTag_plain tplain_Lf⟩, g5⟩
  case land =>
    simp only [tstep] at ht
    obtain ⟨y0, x0, r, rfl, h1, h2, h3⟩ := tbinL_sp ht
    obtain ⟨vy, vs1, rfl, gy, -, g3⟩ := okSt_cons hSt
    obtain ⟨vx, vs2, rfl, gx, -, g5⟩ := okSt_cons g3
    obtain ⟨x, rfl, ha⟩ := tlong_sp h1 gx
    obtain ⟨y, rfl, hb⟩ := tlong_sp h2 gy
    exact tpu KG hS h3 ⟨⟨okA_Lf _, okTag_plain tplain_Lf⟩, g5⟩
  case lor =>
    simp only [tstep] at ht
    obtain ⟨y0, x0, r, rfl, h1, h2, h3⟩ := tbinL_sp ht
    obtain ⟨vy, vs1, rfl, gy, -, g3⟩ := okSt_cons hSt
    obtain ⟨vx, vs2, rfl, gx, -, g5⟩ := okSt_cons g3
    obtain ⟨x, rfl, ha⟩ := tlong_sp h1 gx
    obtain ⟨y, rfl, hb⟩ := tlong_sp h2 gy
    exact tpu KG hS h3 ⟨⟨okA_Lf _, okTag_plain tplain_Lf⟩, g5⟩
  case lxor =>
    simp only [tstep] at ht
    obtain ⟨y0, x0, r, rfl, h1, h2, h3⟩ := tbinL_sp ht
    obtain ⟨vy, vs1, rfl, gy, -, g3⟩ := okSt_cons hSt
    obtain ⟨vx, vs2, rfl, gx, -, g5⟩ := okSt_cons g3
    obtain ⟨x, rfl, ha⟩ := tlong_sp h1 gx
    obtain ⟨y, rfl, hb⟩ := tlong_sp h2 gy
    exact tpu KG hS h3 ⟨⟨okA_Lf _, okTag_plain tplain_Lf⟩, g5⟩
  case lshl =>
    simp only [tstep] at ht
    obtain ⟨y0, x0, r, rfl, h1, h2, h3⟩ := tshL_sp ht
    obtain ⟨vy, vs1, rfl, gy, -, g3⟩ := okSt_cons hSt
    obtain ⟨vx, vs2, rfl, gx, -, g5⟩ := okSt_cons g3
    obtain ⟨x, rfl, ha⟩ := tlong_sp h1 gx
    obtain ⟨y, rfl, hb⟩ := tint_sp h2 gy
    exact tpu KG hS h3 ⟨⟨okA_Lf _, okTag_plain tplain_Lf⟩, g5⟩
  case lushr =>
    simp only [tstep] at ht
    obtain ⟨y0, x0, r, rfl, h1, h2, h3⟩ := tshL_sp ht
    obtain ⟨vy, vs1, rfl, gy, -, g3⟩ := okSt_cons hSt
    obtain ⟨vx, vs2, rfl, gx, -, g5⟩ := okSt_cons g3
    obtain ⟨x, rfl, ha⟩ := tlong_sp h1 gx
    obtain ⟨y, rfl, hb⟩ := tint_sp h2 gy
    exact tpu KG hS h3 ⟨⟨okA_Lf _, okTag_plain tplain_Lf⟩, g5⟩
  case i2l =>
    simp only [tstep] at ht
    split at ht
    · next x0 r =>
      obtain ⟨h1, ht⟩ := z_and ht
      obtain ⟨vx, vs2, rfl, gx, gt, g5⟩ := okSt_cons hSt
      obtain ⟨x, rfl, ha⟩ := tint_sp h1 gx
      have h0 : x0.1 = 0 := Nat.eq_of_beq_eq_true h1
      refine tpu KG hS ht ⟨⟨⟨x.toInt64, rfl, ?_, ?_⟩, ⟨fun k hk he => ?_, fun c hc => by cases hc⟩⟩, g5⟩
      · show tlo x0 ≤ x.toInt64.toInt
        rw [Int32.toInt_toInt64]
        exact ha.1
      · show x.toInt64.toInt ≤ thi x0
        rw [Int32.toInt_toInt64]
        exact ha.2
      · obtain ⟨y, h2, h3⟩ := gt.1 k (by omega) he
        refine ⟨y, h2, ?_⟩
        show x.toInt64.toInt = y.toInt
        rw [Int32.toInt_toInt64]
        exact h3
    · cases ht
  case l2i =>
    simp only [tstep] at ht
    split at ht
    · next x0 r =>
      obtain ⟨h1, ht⟩ := z_and ht
      obtain ⟨vx, vs2, rfl, gx, gt, g5⟩ := okSt_cons hSt
      obtain ⟨x, rfl, ha⟩ := tlong_sp h1 gx
      exact tpu KG hS ht ⟨⟨tl2i_ok ha, okTag_plain (tplain_l2i _)⟩, g5⟩
    · cases ht
  case lcmp =>
    simp only [tstep] at ht
    split at ht
    · next y0 x0 r =>
      obtain ⟨h1, ht⟩ := z_and ht
      obtain ⟨h2, ht⟩ := z_and ht
      obtain ⟨vy, vs1, rfl, gy, -, g3⟩ := okSt_cons hSt
      obtain ⟨vx, vs2, rfl, gx, -, g5⟩ := okSt_cons g3
      obtain ⟨x, rfl, ha⟩ := tlong_sp h1 gx
      obtain ⟨y, rfl, hb⟩ := tlong_sp h2 gy
      obtain ⟨z, hz, hz1, hz2⟩ := zcmp_ex x y
      refine t_and2 rfl (t_and2 rfl ?_)
      rw [hz]
      exact tpu KG hS ht ⟨⟨okA_I hz1 hz2, okTag_plain (tplain_I _ _)⟩, g5⟩
    · cases ht
  case dup =>
    simp only [tstep] at ht
    split at ht
    · next x0 r =>
      obtain ⟨h1, ht⟩ := z_and ht
      obtain ⟨vx, vs2, rfl, gx, gt, g5⟩ := okSt_cons hSt
      exact t_and2 (ncat h1 gx) (tpu KG hS ht ⟨⟨gx, gt⟩, ⟨gx, gt⟩, g5⟩)
    · cases ht
  case pop =>
    simp only [tstep] at ht
    split at ht
    · next x0 r =>
      obtain ⟨h1, ht⟩ := z_and ht
      obtain ⟨vx, vs2, rfl, gx, gt, g5⟩ := okSt_cons hSt
      exact t_and2 (ncat h1 gx) (tpu KG hS ht g5)
    · cases ht
  case dup2 =>
    simp only [tstep] at ht
    split at ht
    · next x0 y0 r =>
      obtain ⟨h1, ht⟩ := z_and ht
      obtain ⟨h2, ht⟩ := z_and ht
      obtain ⟨vx, vs1, rfl, gx, tx, g3⟩ := okSt_cons hSt
      obtain ⟨vy, vs2, rfl, gy, ty', g5⟩ := okSt_cons g3
      exact t_and2 (ncat h1 gx) (t_and2 (ncat h2 gy) (tpu KG hS ht ⟨⟨gx, tx⟩, ⟨gy, ty'⟩, ⟨gx, tx⟩, ⟨gy, ty'⟩, g5⟩))
    · cases ht
  case dup_x1 =>
    simp only [tstep] at ht
    split at ht
    · next x0 y0 r =>
      obtain ⟨h1, ht⟩ := z_and ht
      obtain ⟨h2, ht⟩ := z_and ht
      obtain ⟨vx, vs1, rfl, gx, tx, g3⟩ := okSt_cons hSt
      obtain ⟨vy, vs2, rfl, gy, ty', g5⟩ := okSt_cons g3
      exact t_and2 (ncat h1 gx) (t_and2 (ncat h2 gy) (tpu KG hS ht ⟨⟨gx, tx⟩, ⟨gy, ty'⟩, ⟨gx, tx⟩, g5⟩))
    · cases ht
  case ifCond cd off =>
    simp only [tstep] at ht
    split at ht
    · next x0 r =>
      obtain ⟨h1, ht⟩ := z_and ht
      obtain ⟨t, e1, ht⟩ := zof_sp ht
      obtain ⟨h2, h3⟩ := z_and ht
      obtain ⟨vx, vs2, rfl, gx, gt, g5⟩ := okSt_cons hSt
      obtain ⟨x, rfl, ha⟩ := tint_sp h1 gx
      have key : ∀ (cd' : ClassFile.Cond) (pc' : Nat), zop cd' x 0 → tbr cd' aL x0 (tI 0 0) (tknow cd' x0) (fun aL' => K pc' aL' r nc ns) = true → zB (G (pc', L, vs2, h, nc, ns)) = true := fun cd' pc' hc hk => by
        unfold tbr at hk
        obtain ⟨aL1, g6, g7⟩ := tcmp_ok hL gt (okTag_plain (tplain_I 0 0)) h1 rfl ha ⟨Int.le_refl _, Int.le_refl _⟩ hc hk
        have hcs : ∀ c ∈ tknow cd' x0, ∃ y : Int32, zget L c.1 = some (.inl (.int y)) ∧ c.2.1 ≤ y.toInt ∧ y.toInt ≤ c.2.2 := fun c hcc => by
          have hx0 : x ≠ 0 → c ∈ tcnd x0 → ∃ y : Int32, zget L c.1 = some (.inl (.int y)) ∧ c.2.1 ≤ y.toInt ∧ y.toInt ≤ c.2.2 := fun hne hm => gt.2 c hm (fun q => hne (by cases q; rfl))
          have h00 : ¬ (0 : Int32) < 0 := by decide
          cases cd' with
          | ne => exact hx0 hc hcc
          | gt => exact hx0 (fun q => by have hc : (0 : Int32) < x := hc; rw [q] at hc; exact h00 hc) hcc
          | lt => exact hx0 (fun q => by have hc : x < (0 : Int32) := hc; rw [q] at hc; exact h00 hc) hcc
          | eq => cases hcc
          | le => cases hcc
          | ge => cases hcc
        obtain ⟨aL2, g8, g9⟩ := tcutC_ok g6 hcs g7
        exact tlc KG hS g9 g8 g5
      exact t_and2 rfl (zof_mk e1 (zbr_ex (fun hc => key cd t hc h2) (fun hc => key (tneg cd) (pc + 3) (zop_neg hc) h3)))
    · cases ht
  case if_icmp cd off =>
    simp only [tstep] at ht
    split at ht
    · next y0 x0 r =>
      obtain ⟨h1, ht⟩ := z_and ht
      obtain ⟨h1', ht⟩ := z_and ht
      obtain ⟨t, e1, ht⟩ := zof_sp ht
      obtain ⟨h2, h3⟩ := z_and ht
      obtain ⟨vy, vs1, rfl, gy, ty', g3⟩ := okSt_cons hSt
      obtain ⟨vx, vs2, rfl, gx, tx, g5⟩ := okSt_cons g3
      obtain ⟨x, rfl, ha⟩ := tint_sp h1 gx
      obtain ⟨y, rfl, hb⟩ := tint_sp h1' gy
      have key : ∀ (cd' : ClassFile.Cond) (pc' : Nat), zop cd' x y → tbr cd' aL x0 y0 [] (fun aL' => K pc' aL' r nc ns) = true → zB (G (pc', L, vs2, h, nc, ns)) = true := fun cd' pc' hc hk => by
        unfold tbr at hk
        obtain ⟨aL1, g6, g7⟩ := tcmp_ok hL tx ty' h1 h1' ha hb hc hk
        exact tlc KG hS g7 g6 g5
      exact t_and2 rfl (t_and2 rfl (zof_mk e1 (zbr_ex (fun hc => key cd t hc h2) (fun hc => key (tneg cd) (pc + 3) (zop_neg hc) h3))))
    · cases ht
  case goto off =>
    simp only [tstep] at ht
    obtain ⟨t, e1, ht⟩ := zof_sp ht
    exact zof_mk e1 (tpu KG hS ht hSt)
  case ldc ix =>
    simp only [tstep] at ht
    split at ht
    · exact tpu KG hS ht ⟨tI_ok _, hSt⟩
    · exact tpu KG hS ht ⟨⟨rfl, okTag_none (Or.inr (by show 2 ≤ 4; omega)) rfl⟩, hSt⟩
    · cases ht
  case ldc_w ix =>
    simp only [tstep] at ht
    split at ht
    · exact tpu KG hS ht ⟨tI_ok _, hSt⟩
    · cases ht
  case ldc2_w ix =>
    simp only [tstep] at ht
    split at ht
    · exact tpu KG hS ht ⟨tJ_ok _, hSt⟩
    · cases ht
  case getstatic ix =>
    exact tpu KG hS ht ⟨⟨rfl, okTag_none (Or.inr (by show 2 ≤ 4; omega)) rfl⟩, hSt⟩
  case tableswitch df lo hi offs =>
    simp only [tstep] at ht
    split at ht
    · next x0 r =>
      obtain ⟨h1, ht⟩ := z_and ht
      obtain ⟨h2, ht⟩ := z_and ht
      obtain ⟨h3, h4⟩ := z_and ht
      have h2 := of_decide_eq_true h2
      obtain ⟨vx, vs2, rfl, gx, gt, g5⟩ := okSt_cons hSt
      obtain ⟨x, rfl, ha⟩ := tint_sp h1 gx
      have hzl : zlo (.inl (.int x)) = x.toInt := rfl
      have hzh : zhi (.inl (.int x)) = x.toInt := rfl
      simp only [zstep]
      refine t_and2 rfl ?_
      by_cases ho : x.toInt < lo ∨ hi < x.toInt
      · have ho' : zhi (.inl (.int x)) < lo ∨ hi < zlo (.inl (.int x)) := ho
        rw [if_pos ho']
        rw [if_pos (by omega)] at h3
        obtain ⟨t, e1, h3⟩ := zof_sp h3
        refine zof_mk e1 ?_
        exact tpu KG hS h3 g5
      · have ho' : ¬ (zhi (.inl (.int x)) < lo ∨ hi < zlo (.inl (.int x))) := ho
        rw [if_neg ho']
        have n1 : ¬ x.toInt < lo := fun q => ho (Or.inl q)
        have n2 : ¬ hi < x.toInt := fun q => ho (Or.inr q)
        refine t_and2 (by simpa using n1) (t_and2 (by simpa using n2) ?_)
        have hlt : (x.toInt - lo).toNat < offs.size := by omega
        have hof : offs[(x.toInt - lo).toNat]? = some offs[(x.toInt - lo).toNat] := Array.getElem?_eq_getElem hlt
        rw [hof]
        have hof2 : offs.toList[(x.toInt - lo).toNat]? = some offs[(x.toInt - lo).toNat] := by
          rw [Array.getElem?_toList]
          exact hof
        obtain ⟨t, e1, aL', g6, g7⟩ := tsw_ok hL gt h1 ha offs.toList 0 h4 _ _ hof2 (by omega)
        refine zof_mk e1 ?_
        exact tlc KG hS g7 g6 g5
    · cases ht
  case getfield ix =>
    simp only [tstep] at ht
    split at ht
    · next x0 r =>
      obtain ⟨h1, ht⟩ := z_and ht
      obtain ⟨h2, ht⟩ := z_and ht
      obtain ⟨h3, ht⟩ := z_and ht
      have h2 := Nat.eq_of_beq_eq_true h2
      have h3 := z_blt h3
      obtain ⟨vx, vs2, rfl, gx, gt, g5⟩ := okSt_cons hSt
      obtain ⟨q, rfl, hq⟩ := tref_sp h1 gx
      obtain ⟨fs, k1, k2, k3⟩ := hOk.2.2 q _ hq
      rw [h2] at k1
      have hb : b < fs.length := by omega
      have hv := List.getElem?_eq_getElem hb
      obtain ⟨w, g6, g7, g8⟩ := tslot_sp ht (k3 _ _ hv)
      simp only [zstep]
      refine zrow_mk k1 (hq6 _ _ hq) ?_
      rw [hv]
      exact tpu KG hS g6 ⟨⟨g7, g8 L⟩, g5⟩
    · cases ht
  case putfield ix =>
    simp only [tstep] at ht
    split at ht
    · next v0 x0 r =>
      obtain ⟨h1, ht⟩ := z_and ht
      obtain ⟨h2, ht⟩ := z_and ht
      obtain ⟨h3, ht⟩ := z_and ht
      obtain ⟨h4, ht⟩ := z_and ht
      have h2 := Nat.eq_of_beq_eq_true h2
      have h3 := z_blt h3
      obtain ⟨vv, vs1, rfl, gv, -, g3⟩ := okSt_cons hSt
      obtain ⟨vx, vs2, rfl, gx, gt, g5⟩ := okSt_cons g3
      obtain ⟨q, rfl, hq⟩ := tref_sp h1 gx
      obtain ⟨fs, k1, k2, k3⟩ := hOk.2.2 q _ hq
      obtain ⟨f1, f2, f3⟩ := tfits_sp h4 gv
      have hb : b < fs.length := by omega
      have k1' := k1
      rw [h2] at k1'
      have := twr KG hS hst ht g5 hq k1 (List.length_set) (tset_w f1) (tset_s f2 k3)
      rw [h2] at this
      simp only [zstep]
      refine zrow_mk k1' (hq6 _ _ hq) ?_
      exact t_and2 (t_blt hb) (t_and2 f3 this)
    · cases ht
  case newarray aty =>
    cases aty <;> try (exact absurd ht Bool.false_ne_true)
    case boolean =>
      simp only [tstep] at ht
      split at ht
      · next n0 r =>
        obtain ⟨h1, ht⟩ := z_and ht
        obtain ⟨h2, ht⟩ := z_and ht
        obtain ⟨h3, ht⟩ := z_and ht
        obtain ⟨h4, ht⟩ := z_and ht
        obtain ⟨h5, ht⟩ := z_and ht
        have h2 := of_decide_eq_true h2
        have h3 := of_decide_eq_true h3
        have h4' := z_ble h4
        obtain ⟨vn, vs1, rfl, gn, -, g3⟩ := okSt_cons hSt
        obtain ⟨n, rfl, bn⟩ := tint_sp h1 gn
        obtain ⟨s1, s2, s3, s4, s5, s6, s7, s8⟩ := hst
        have en : n.toInt = ((ty tB).2.1 : Int) := by omega
        have en2 : n.toNatClampNeg = (ty tB).2.1 := by
          show n.toInt.toNat = _
          omega
        have hn0 : ¬ n < 0 := fun q => by
          have := Int32.lt_iff_toInt_lt.mp q
          have h0 : (0 : Int32).toInt = 0 := rfl
          omega
        show (if n < 0 then false else _) = true
        rw [if_neg hn0, en2]
        refine t_and2 (t_ble s8) (t_and2 h4 (t_and2 h5 (t_and2 (t_blt (by omega)) ?_)))
        have hsz : h.length = T.length := hOk.1
        have hok2 : hOK ty (T ++ [tB]) (h ++ [(15, List.replicate (ty tB).2.1 (.inl (.int 0)))]) := by
          rw [← s4]
          refine hOK_app hOk (by omega) (by simp) (fun i v hv => ?_)
          have e := List.eq_of_mem_replicate (List.mem_of_getElem? hv)
          rw [e, s3 tB i (by omega)]
          unfold okS
          rw [s5]
          exact ⟨0, rfl, s6, s7⟩
        refine zB_iff.mpr (KG (T ++ [tB]) _ _ _ _ _ _ rfl ht ⟨okL_mono (tExt_app T _) hL, ⟨⟨⟨h.length, rfl, ?_⟩, okTag_none (Or.inr (by show 2 ≤ 2; omega)) rfl⟩, okSt_mono (tExt_app T _) g3⟩, hok2, s2 T h hOk hS.2.2.2.1, ?_, rfl, rfl, hS.2.2.2.2.2.2.2.1, tExt_tr hS.2.2.2.2.2.2.2.2.1 (tExt_app T _), h4'⟩)
        · rw [hsz, List.getElem?_append_right (Nat.le_refl _), Nat.sub_self]
          rfl
        · show (h ++ _).length ≤ N0 + (nc + 1)
          rw [List.length_append]
          show h.length + 1 ≤ _
          omega
      · cases ht
  case iaload =>
    simp only [tstep] at ht
    split at ht
    · next i0 x0 r =>
      obtain ⟨vi, vs1, rfl, gi, -, g3⟩ := okSt_cons hSt
      obtain ⟨vx, vs2, rfl, gx, -, g5⟩ := okSt_cons g3
      split at ht
      · next h4 =>
        have h4 : x0.1 = 4 := Nat.eq_of_beq_eq_true h4
        obtain ⟨h1, ht⟩ := z_and ht
        obtain ⟨h2, ht⟩ := z_and ht
        obtain ⟨h3, ht⟩ := z_and ht
        obtain ⟨h5, ht⟩ := z_and ht
        have h3 := of_decide_eq_true h3
        have h5 := of_decide_eq_true h5
        have h1 : x0.2.2.2.1 = 10000001 := Nat.eq_of_beq_eq_true h1
        unfold okA at gx
        rw [h4, h1] at gx
        have gx : vx = .inl (.ref 10000001) := gx
        subst gx
        obtain ⟨i, rfl, bi⟩ := tint_sp h2 gi
        have hz : ∀ k, k < 6 → ∃ y : Int32, zund[k]? = some (.inl (.int y)) ∧ -1 ≤ y.toInt ∧ y.toInt ≤ 4 := by
          intro k hk
          match k, hk with
          | 0, _ => exact ⟨-1, rfl, by decide, by decide⟩
          | 1, _ => exact ⟨0, rfl, by decide, by decide⟩
          | 2, _ => exact ⟨0, rfl, by decide, by decide⟩
          | 3, _ => exact ⟨1, rfl, by decide, by decide⟩
          | 4, _ => exact ⟨0, rfl, by decide, by decide⟩
          | 5, _ => exact ⟨4, rfl, by decide, by decide⟩
        obtain ⟨y, y1, y2, y3⟩ := hz i.toInt.toNat (by omega)
        simp only [zstep]
        (try rw [if_neg (by decide)])
        (try rw [if_pos rfl])
        refine zel_mk (by omega) y1 ?_
        exact tpu KG hS ht ⟨⟨okA_I y2 y3, okTag_plain (tplain_I _ _)⟩, g5⟩
      · obtain ⟨q, i, vs, v, rfl, rfl, e1, e2, e3, e4, e5, e6, e7, e8, ht⟩ := tidx_sp hOk ht gx gi
        obtain ⟨w, g6, g7, g8⟩ := tslot_sp ht (by have := e8 _ _ e7; rw [hst.2.2.1 _ _ (by omega)] at this; exact this)
        obtain ⟨g9, g6⟩ := z_and g6
        show (if q = 10000000 then _ else if q = 10000001 then _ else zrow h q 10 _) = true
        rw [if_neg (by omega), if_neg (by omega)]
        refine zrow_mk e3 e4 ?_
        refine zel_mk e5 e7 ?_
        exact tpu KG hS g6 ⟨⟨g7, g8 L⟩, g5⟩
    · cases ht
  case laload =>
    simp only [tstep] at ht
    split at ht
    · next i0 x0 r =>
      obtain ⟨vi, vs1, rfl, gi, -, g3⟩ := okSt_cons hSt
      obtain ⟨vx, vs2, rfl, gx, -, g5⟩ := okSt_cons g3
      obtain ⟨q, i, vs, v, rfl, rfl, e1, e2, e3, e4, e5, e6, e7, e8, ht⟩ := tidx_sp hOk ht gx gi
      obtain ⟨w, g6, g7, g8⟩ := tslot_sp ht (by have := e8 _ _ e7; rw [hst.2.2.1 _ _ (by omega)] at this; exact this)
      obtain ⟨g9, g6⟩ := z_and g6
      simp only [zstep]
      refine zrow_mk e3 e4 ?_
      refine zel_mk e5 e7 ?_
      exact tpu KG hS g6 ⟨⟨g7, g8 L⟩, g5⟩
    · cases ht
  case baload =>
    simp only [tstep] at ht
    split at ht
    · next i0 x0 r =>
      obtain ⟨vi, vs1, rfl, gi, -, g3⟩ := okSt_cons hSt
      obtain ⟨vx, vs2, rfl, gx, -, g5⟩ := okSt_cons g3
      obtain ⟨q, i, vs, v, rfl, rfl, e1, e2, e3, e4, e5, e6, e7, e8, ht⟩ := tidx_sp hOk ht gx gi
      obtain ⟨w, g6, g7, g8⟩ := tslot_sp ht (by have := e8 _ _ e7; rw [hst.2.2.1 _ _ (by omega)] at this; exact this)
      obtain ⟨g9, g6⟩ := z_and g6
      simp only [zstep]
      refine zrow_mk e3 e4 ?_
      refine zel_mk e5 e7 ?_
      exact tpu KG hS g6 ⟨⟨g7, g8 L⟩, g5⟩
    · cases ht
  case aaload =>
    simp only [tstep] at ht
    split at ht
    · next i0 x0 r =>
      obtain ⟨h0, ht⟩ := z_and ht
      obtain ⟨h01, h02⟩ := z_and h0
      have h01' := z_ble h01
      obtain ⟨vi, vs1, rfl, gi, -, g3⟩ := okSt_cons hSt
      obtain ⟨vx, vs2, rfl, gx, -, g5⟩ := okSt_cons g3
      obtain ⟨q, i, vs, v, rfl, rfl, e1, e2, e3, e4, e5, e6, e7, e8, ht⟩ := tidx_sp hOk ht gx gi
      obtain ⟨w, g6, g7, g8⟩ := tslot_sp ht (by have := e8 _ _ e7; rw [hst.2.2.1 _ _ (by omega)] at this; exact this)
      obtain ⟨g9, g6⟩ := z_and g6
      show (match h[q]? with
        | some x => Nat.blt q 1000000 && (Nat.ble 12 x.1 && (Nat.ble x.1 14 && zel x.2 i _))
        | none => false) = true
      rw [e3]
      refine t_and2 (t_blt e4) (t_and2 h01 (t_and2 h02 ?_))
      refine zel_mk e5 e7 ?_
      exact tpu KG hS g6 ⟨⟨g7, g8 L⟩, g5⟩
    · cases ht
  case iastore =>
    simp only [tstep] at ht
    split at ht
    · next v0 i0 x0 r =>
      obtain ⟨vv, vs0, rfl, gv, -, g2⟩ := okSt_cons hSt
      obtain ⟨vi, vs1, rfl, gi, -, g3⟩ := okSt_cons g2
      obtain ⟨vx, vs2, rfl, gx, -, g5⟩ := okSt_cons g3
      obtain ⟨q, i, vs, v, rfl, rfl, e1, e2, e3, e4, e5, e6, e7, e8, ht⟩ := tidx_sp hOk ht gx gi
      obtain ⟨h1, ht⟩ := z_and ht
      obtain ⟨h2, ht⟩ := z_and ht
      have hu := hst.2.2.1 (taux x0) i.toInt.toNat (by omega)
      rw [← hu] at h1
      obtain ⟨f1, f2, f3⟩ := tfits_sp h1 gv
      have e3' := e3
      rw [← e2] at e3'
      have := twr KG hS hst ht g5 e1 e3' (List.length_set) (tset_w f1) (tset_s f2 e8)
      rw [e2] at this
      obtain ⟨x, rfl, -⟩ := tint_sp h2 gv
      simp only [zstep]
      refine t_and2 rfl ?_
      refine zrow_mk e3 e4 ?_
      exact t_and2 (zix_mk e5 e6) this
    · cases ht
  case lastore =>
    simp only [tstep] at ht
    split at ht
    · next v0 i0 x0 r =>
      obtain ⟨vv, vs0, rfl, gv, -, g2⟩ := okSt_cons hSt
      obtain ⟨vi, vs1, rfl, gi, -, g3⟩ := okSt_cons g2
      obtain ⟨vx, vs2, rfl, gx, -, g5⟩ := okSt_cons g3
      obtain ⟨q, i, vs, v, rfl, rfl, e1, e2, e3, e4, e5, e6, e7, e8, ht⟩ := tidx_sp hOk ht gx gi
      obtain ⟨h1, ht⟩ := z_and ht
      obtain ⟨h2, ht⟩ := z_and ht
      have hu := hst.2.2.1 (taux x0) i.toInt.toNat (by omega)
      rw [← hu] at h1
      obtain ⟨f1, f2, f3⟩ := tfits_sp h1 gv
      have e3' := e3
      rw [← e2] at e3'
      have := twr KG hS hst ht g5 e1 e3' (List.length_set) (tset_w f1) (tset_s f2 e8)
      rw [e2] at this
      obtain ⟨x, rfl, -⟩ := tlong_sp h2 gv
      simp only [zstep]
      refine t_and2 rfl ?_
      refine zrow_mk e3 e4 ?_
      exact t_and2 (zix_mk e5 e6) this
    · cases ht
  case bastore =>
    simp only [tstep] at ht
    split at ht
    · next v0 i0 x0 r =>
      obtain ⟨vv, vs0, rfl, gv, -, g2⟩ := okSt_cons hSt
      obtain ⟨vi, vs1, rfl, gi, -, g3⟩ := okSt_cons g2
      obtain ⟨vx, vs2, rfl, gx, -, g5⟩ := okSt_cons g3
      obtain ⟨q, i, vs, v, rfl, rfl, e1, e2, e3, e4, e5, e6, e7, e8, ht⟩ := tidx_sp hOk ht gx gi
      obtain ⟨h1, ht⟩ := z_and ht
      obtain ⟨h2, ht⟩ := z_and ht
      obtain ⟨h3, ht⟩ := z_and ht
      obtain ⟨h4, ht⟩ := z_and ht
      obtain ⟨h5, ht⟩ := z_and ht
      have h2 := Nat.eq_of_beq_eq_true h2
      have h3 := of_decide_eq_true h3
      have h4 := of_decide_eq_true h4
      have hu := hst.2.2.1 (taux x0) i.toInt.toNat (by omega)
      obtain ⟨x, rfl, -⟩ := tint_sp h5 gv
      have hx : 0 ≤ (x &&& 1).toInt ∧ (x &&& 1).toInt ≤ 1 := by
        have h := t_and (x := 1) (y := x) (by decide)
        rw [t_andC] at h
        exact h
      have f2 : okS T ((ty (taux x0)).2.2 i.toInt.toNat) (.inl (.int (x &&& 1))) := by
        rw [hu]
        unfold okS
        rw [h2]
        exact ⟨_, rfl, by omega, by omega⟩
      have e3' := e3
      rw [← e2] at e3'
      have := twr KG hS hst ht g5 e1 e3' (List.length_set) (tset_w (by rw [hu]; exact h1)) (tset_s f2 e8)
      rw [e2] at this
      simp only [zstep]
      refine zrow_mk e3 e4 ?_
      exact t_and2 (zix_mk e5 e6) this
    · cases ht
  case arraylength =>
    simp only [tstep] at ht
    split at ht
    · next x0 r =>
      obtain ⟨h1, ht⟩ := z_and ht
      obtain ⟨h2, ht⟩ := z_and ht
      obtain ⟨h3, ht⟩ := z_and ht
      have h3 := z_ble h3
      obtain ⟨vx, vs2, rfl, gx, gt, g5⟩ := okSt_cons hSt
      obtain ⟨q, rfl, hq⟩ := tref_sp h1 gx
      obtain ⟨fs, k1, k2, k3⟩ := hOk.2.2 q _ hq
      have hq7 := hq6 _ _ hq
      show (if q = 10000000 then _ else _) = true
      rw [if_neg (by omega), k1]
      refine t_and2 (t_blt hq7) (t_and2 h2 (tpu KG hS ht ⟨⟨?_, okTag_plain (tplain_I _ _)⟩, g5⟩))
      have e : (Int32.ofNat fs.length).toInt = ((ty (taux x0)).2.1 : Int) := by
        have := nI_toInt (n := fs.length) (by omega)
        rw [k2] at this ⊢
        exact this
      show okA T _ (.inl (.int (Int32.ofNat fs.length)))
      exact okA_I (by omega) (by omega)
    · cases ht
  case invokevirtual ix =>
    simp only [tstep] at ht
    split at ht
    · split at ht
      · next E hE =>
        obtain ⟨h1, ht⟩ := z_and ht
        have h1' := z_ble h1
        split at ht
        · next x0 r hdr =>
          obtain ⟨h2, ht⟩ := z_and ht
          obtain ⟨h3, ht⟩ := z_and ht
          have h3 := Nat.eq_of_beq_eq_true h3
          have hd := okSt_drop (zEp E) hSt
          rw [hdr] at hd
          obtain ⟨vx, vs2, hdv, gx, gt, g5⟩ := okSt_cons hd
          obtain ⟨q, rfl, hq⟩ := tref_sp h2 gx
          obtain ⟨fs, k1, k2, k3⟩ := hOk.2.2 q _ hq
          rw [h3] at k1
          obtain ⟨c1, c2, c3, c4⟩ := tcall_ok KG hS hN hsm hE ht (vs := .inl (.ref q) :: (stk.take (zEp E)).reverse) (restS := vs2) ⟨⟨gx, gt⟩, okSt_rev (okSt_take _ hSt)⟩ g5
          have hl := okSt_len hSt
          simp only [zstep, zcalv, hE, hdv]
          refine t_and2 (t_ble (by omega)) (t_and2 (t_ble c1) (t_and2 (t_ble c2) ?_))
          refine zrow_mk k1 (hq6 _ _ hq) ?_
          exact t_and2 (t_ble c3) c4
        · cases ht
      · cases ht
    · cases ht
  case invokestatic ix =>
    simp only [tstep] at ht
    split at ht
    · split at ht
      · next n0 dp0 r1 sp0 r0 =>
        obtain ⟨h1, ht⟩ := z_and ht
        obtain ⟨h2, ht⟩ := z_and ht
        obtain ⟨h3, ht⟩ := z_and ht
        obtain ⟨h4, ht⟩ := z_and ht
        obtain ⟨h5, ht⟩ := z_and ht
        obtain ⟨h6, ht⟩ := z_and ht
        obtain ⟨h7, ht⟩ := z_and ht
        obtain ⟨h8, ht⟩ := z_and ht
        obtain ⟨h9, ht⟩ := z_and ht
        obtain ⟨h10, ht⟩ := z_and ht
        obtain ⟨h11, ht⟩ := z_and ht
        obtain ⟨h12, ht⟩ := z_and ht
        obtain ⟨h13, ht⟩ := z_and ht
        have h6 := Nat.eq_of_beq_eq_true h6
        have h7 := Nat.eq_of_beq_eq_true h7
        have h8 := of_decide_eq_true h8
        have h9 := of_decide_eq_true h9
        have h10 := of_decide_eq_true h10
        have h11 := of_decide_eq_true h11
        have h12 := of_decide_eq_true h12
        obtain ⟨v1, s1, rfl, g1, -, k1⟩ := okSt_cons hSt
        obtain ⟨v2, s2, rfl, g2, -, k2⟩ := okSt_cons k1
        obtain ⟨v3, s3, rfl, g3, -, k3⟩ := okSt_cons k2
        obtain ⟨v4, s4, rfl, g4, -, k4⟩ := okSt_cons k3
        obtain ⟨v5, s5, rfl, g5, -, k5⟩ := okSt_cons k4
        have e5 := okSt_nil k5
        subst e5
        obtain ⟨n, rfl, bn⟩ := tint_sp h1 g1
        obtain ⟨dp, rfl, bd⟩ := tint_sp h2 g2
        obtain ⟨sp, rfl, bs⟩ := tint_sp h3 g4
        obtain ⟨q1, rfl, hq1⟩ := tref_sp h4 g3
        obtain ⟨q0, rfl, hq0⟩ := tref_sp h5 g5
        obtain ⟨f, f1, f2, f3⟩ := hOk.2.2 q0 _ hq0
        obtain ⟨g, p1, p2, p3⟩ := hOk.2.2 q1 _ hq1
        have nz : ∀ z : Int32, 0 ≤ z.toInt → ¬ z < 0 := fun z hz q => by
          have := Int32.lt_iff_toInt_lt.mp q
          have h0 : (0 : Int32).toInt = 0 := rfl
          omega
        have m1 : n.toNatClampNeg = n.toInt.toNat := rfl
        have m2 : dp.toNatClampNeg = dp.toInt.toNat := rfl
        have m3 : sp.toNatClampNeg = sp.toInt.toNat := rfl
        have l1 : sp.toNatClampNeg + n.toNatClampNeg ≤ f.length := by rw [m1, m3]; omega
        have l2 : dp.toNatClampNeg + n.toNatClampNeg ≤ g.length := by rw [m1, m2]; omega
        have u0 := fun i => hst.2.2.1 (taux r0) i (by omega)
        have u1 := fun i => hst.2.2.1 (taux r1) i (by omega)
        have hwr : ((ty (taux r1)).2.2 0).2.2.2.2 = true := by
          unfold tslot at h13
          split at h13
          · exact (z_and h13).1
          · exact (z_and h13).1
          · exact (z_and h13).1
          · cases h13
        have := twr KG hS hst ht (stk' := []) trivial hq1 p1 (vs' := zcpy f g sp.toNatClampNeg dp.toNatClampNeg n.toNatClampNeg) (zcpy_len l1 l2) (fun i hi => by rw [u1 i, hwr] at hi; cases hi) (fun i v hv => by
          obtain ⟨c1, c2⟩ := zcpy_get l1 l2 hv
          by_cases hj : dp.toNatClampNeg ≤ i ∧ i < dp.toNatClampNeg + n.toNatClampNeg
          · have q1 := f3 _ _ (c1 hj)
            rw [u0] at q1
            obtain ⟨w, w1, w2, -⟩ := tslot_sp h13 q1
            rw [u1]
            exact (tfits_sp w1 w2).2.1
          · exact p3 _ _ (c2 hj))
        rw [h7] at this p1
        rw [h6] at f1
        simp only [zstep]
        rw [if_neg (nz n (by omega)), if_neg (nz dp (by omega)), if_neg (nz sp (by omega))]
        refine zrow_mk f1 (hq6 _ _ hq0) ?_
        refine zrow_mk p1 (hq6 _ _ hq1) ?_
        exact t_and2 (t_ble l1) (t_and2 (t_ble l2) this)
      · cases ht
    · split at ht
      · next y0 x0 r =>
        obtain ⟨h1, ht⟩ := z_and ht
        obtain ⟨h2, ht⟩ := z_and ht
        obtain ⟨h3, ht⟩ := z_and ht
        obtain ⟨vy, vs1, rfl, gy, -, g3⟩ := okSt_cons hSt
        obtain ⟨vx, vs2, rfl, gx, -, g5⟩ := okSt_cons g3
        obtain ⟨x, rfl, ha⟩ := tint_sp h1 gx
        obtain ⟨y, rfl, hb⟩ := tint_sp h2 gy
        have := tpu KG hS ht (stk' := .inl (.int (if y < x then y else x)) :: vs2) ⟨⟨tmin_ok ha hb, okTag_plain (tplain_I _ _)⟩, g5⟩
        simp only [zstep]
        exact t_and2 (by rw [okSt_sum g5]; exact h3) this
      · cases ht
    · split at ht
      · next y0 x0 r =>
        obtain ⟨h1, ht⟩ := z_and ht
        obtain ⟨h2, ht⟩ := z_and ht
        obtain ⟨h3, ht⟩ := z_and ht
        obtain ⟨vy, vs1, rfl, gy, -, g3⟩ := okSt_cons hSt
        obtain ⟨vx, vs2, rfl, gx, -, g5⟩ := okSt_cons g3
        obtain ⟨x, rfl, ha⟩ := tint_sp h1 gx
        obtain ⟨y, rfl, hb⟩ := tint_sp h2 gy
        have := tpu KG hS ht (stk' := .inl (.int (if x < y then y else x)) :: vs2) ⟨⟨tmax_ok ha hb, okTag_plain (tplain_I _ _)⟩, g5⟩
        simp only [zstep]
        exact t_and2 (by rw [okSt_sum g5]; exact h3) this
      · cases ht
    · cases ht
    · next n7 n9 n10 n12 =>
      split at ht
      · next E hE =>
        obtain ⟨h1, ht⟩ := z_and ht
        have h1' := z_ble h1
        have hl := okSt_len hSt
        obtain ⟨c1, c2, c3, c4⟩ := tcall_ok KG hS hN hsm hE ht (okSt_rev (okSt_take (zEp E) hSt)) (okSt_drop (zEp E) hSt)
        have key : zcall prog cc a stk h nc ns rc rs (fun st' h' nc' ns' => zB (G (pc + 3, L, st', h', nc', ns'))) = true := by
          simp only [zcall, hE]
          exact t_and2 (t_ble (by omega)) (t_and2 (t_ble c1) (t_and2 (t_ble c2) (t_and2 (t_ble c3) c4)))
        simp only [zstep]
        exact key
      · cases ht
end
