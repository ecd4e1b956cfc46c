section
variable {p : Program} {l : Launch} {e : Env} {R : Room} {s : State} {m : MethodId} {args : Array Value} {below : List Frame} {meth : Method} {c : Code} {Q : State → Prop}
variable {prog : Nat → Option zE} {zst : zSt} {TG TN : List Cond} {scr : List zV} {adK adV : Nat → Nat} {ext : Nat → Option Nat} {D : va_G} {ct : Nat → ClassId} {A : Nat → Prop} {E : zE} {rc rs d : Nat} {ws0 : va_W}
variable {K : zS → Bool} {cv : zV} {a b k pc nc ns : Nat} {L : zL} {st : List zV} {h : zH} {ls : Array Slot} {stc : List Value} {H : Heap} {locs : List Loc} {ws : va_W} {cc : zK}
theorem zstep_sound (C : zCx p R s m args meth c prog zst TG TN scr adK adV ext D ct A E rc rs d) (hG : zGood TG) (hTN : zTNok TN) (hOk : zOkP prog zst TG TN) (HL : zSL l zst TG TN scr adK adV ext D ct d) (hLw : ∀ w ∈ zmwords zESL ++ zmwords zESC, w ∈ TG) (hgl : ∀ w ∈ zglob, w ∈ TG)
    (HM : ∀ j vs h post, cc j vs h post = true → zMet l prog zst TG TN scr adK adV ext D ct d j vs h post) (IH : ∀ x, K x = true → zGo p l e R s m args below meth c Q ext D ct (zEm E) rc rs A ws0 x) (hrel : zRel ext D ct (zEm E) rc rs A s.heap ws0 L st h nc ns ls stc H locs ws) {ins : Instr}
    (k1 : zdec E.2.1 pc ins = true) (k2 : zside prog E.1 zst ins cv a b k = true) (k3 : ∀ w ∈ zwords prog E.1.cls ins cv a b, w ∈ TG) (k4 : ∀ w ∈ zwordsN prog E.1.cls ins a b, w ∈ TN)
    (hz : zstep zNf zdfl zslen prog (zEm E) rc rs scr cc K ins cv a b k pc L st h nc ns = true) : W p l e R s m args below meth c H locs nc ns Q (F0 m pc ls stc) := by
  obtain ⟨hl, hL, hst, hH, hP, hD, hS, hnc, hns, hpre⟩ := id hrel
  obtain ⟨hx, hb, hml, hown, hts, hini, hK, hN, hF, hAO, hO1, hO2, hA, hfr, hlo, hrc, hrs, hC, huw⟩ := id C
  cases ins <;> try (exact absurd hz Bool.false_ne_true)
  case iconst n => exact lv_iconst hx hb (of_decide_eq_true k1) rfl (IH _ hz ls _ H locs ws ⟨hl, hL, ⟨rfl, hst⟩, hH, hP, hD, hS, hnc, hns, hpre⟩)
  case bipush n => exact lv_bipush hx hb (of_decide_eq_true k1) rfl (IH _ hz ls _ H locs ws ⟨hl, hL, ⟨rfl, hst⟩, hH, hP, hD, hS, hnc, hns, hpre⟩)
  case sipush n => exact lv_sipush hx hb (of_decide_eq_true k1) rfl (IH _ hz ls _ H locs ws ⟨hl, hL, ⟨rfl, hst⟩, hH, hP, hD, hS, hnc, hns, hpre⟩)
  case lconst n => exact lv_lconst hx hb (of_decide_eq_true k1) rfl (IH _ hz ls _ H locs ws ⟨hl, hL, ⟨rfl, hst⟩, hH, hP, hD, hS, hnc, hns, hpre⟩)
  case iload_n i =>
    simp only [zstep] at hz
    obtain ⟨v, hv, hi, hk⟩ := zld_sp hz
    obtain ⟨w, hw, hg⟩ := zLo_get hL hv
    obtain ⟨x, rfl, -⟩ := zg_I hg hi
    exact lv_iload_n hx hb (of_decide_eq_true k1) rfl hw (IH _ hk ls _ H locs ws ⟨hl, hL, ⟨hg, hst⟩, hH, hP, hD, hS, hnc, hns, hpre⟩)
  case iload i =>
    simp only [zstep] at hz
    obtain ⟨v, hv, hi, hk⟩ := zld_sp hz
    obtain ⟨w, hw, hg⟩ := zLo_get hL hv
    obtain ⟨x, rfl, -⟩ := zg_I hg hi
    exact lv_iload hx hb (of_decide_eq_true k1) hw (IH _ hk ls _ H locs ws ⟨hl, hL, ⟨hg, hst⟩, hH, hP, hD, hS, hnc, hns, hpre⟩)
  case lload_n i =>
    simp only [zstep] at hz
    obtain ⟨v, hv, hi, hk⟩ := zld_sp hz
    obtain ⟨w, hw, hg⟩ := zLo_get hL hv
    obtain ⟨x, rfl, -⟩ := zg_L hg hi
    exact lv_lload_n hx hb (of_decide_eq_true k1) rfl hw (IH _ hk ls _ H locs ws ⟨hl, hL, ⟨hg, hst⟩, hH, hP, hD, hS, hnc, hns, hpre⟩)
  case lload i =>
    simp only [zstep] at hz
    obtain ⟨v, hv, hi, hk⟩ := zld_sp hz
    obtain ⟨w, hw, hg⟩ := zLo_get hL hv
    obtain ⟨x, rfl, -⟩ := zg_L hg hi
    exact lv_lload hx hb (of_decide_eq_true k1) hw (IH _ hk ls _ H locs ws ⟨hl, hL, ⟨hg, hst⟩, hH, hP, hD, hS, hnc, hns, hpre⟩)
  case aload_n i =>
    simp only [zstep] at hz
    obtain ⟨v, hv, hi, hk⟩ := zld_sp hz
    obtain ⟨w, hw, hg⟩ := zLo_get hL hv
    rcases zg_R hg hi with ⟨-, rfl⟩ | ⟨_, _, -, -, rfl⟩
    · exact lv_aload_nN hx hb (of_decide_eq_true k1) rfl hw (IH _ hk ls _ H locs ws ⟨hl, hL, ⟨hg, hst⟩, hH, hP, hD, hS, hnc, hns, hpre⟩)
    · exact lv_aload_n hx hb (of_decide_eq_true k1) rfl hw (IH _ hk ls _ H locs ws ⟨hl, hL, ⟨hg, hst⟩, hH, hP, hD, hS, hnc, hns, hpre⟩)
  case aload i =>
    simp only [zstep] at hz
    obtain ⟨v, hv, hi, hk⟩ := zld_sp hz
    obtain ⟨w, hw, hg⟩ := zLo_get hL hv
    rcases zg_R hg hi with ⟨-, rfl⟩ | ⟨_, _, -, -, rfl⟩
    · exact lv_aloadN hx hb (of_decide_eq_true k1) hw (IH _ hk ls _ H locs ws ⟨hl, hL, ⟨hg, hst⟩, hH, hP, hD, hS, hnc, hns, hpre⟩)
    · exact lv_aload hx hb (of_decide_eq_true k1) hw (IH _ hk ls _ H locs ws ⟨hl, hL, ⟨hg, hst⟩, hH, hP, hD, hS, hnc, hns, hpre⟩)
  case istore_n i =>
    simp only [zstep] at hz
    obtain ⟨v, r, rfl, hi, hlt, hk⟩ := zs1_sp hz
    obtain ⟨w, r', rfl, hg, hr⟩ := zL2_cons hst
    obtain ⟨x, rfl, -⟩ := zg_I hg hi
    exact lv_istore_n hx hb (of_decide_eq_true k1) rfl (zconc_has hl hL) hlt rfl (fun ls' hl' => IH _ hk ls' _ H locs ws ⟨lv_sub hl' [] rfl, zLo_st1 hL hg hl', hr, hH, hP, hD, hS, hnc, hns, hpre⟩)
  case istore i =>
    simp only [zstep] at hz
    obtain ⟨v, r, rfl, hi, hlt, hk⟩ := zs1_sp hz
    obtain ⟨w, r', rfl, hg, hr⟩ := zL2_cons hst
    obtain ⟨x, rfl, -⟩ := zg_I hg hi
    exact lv_istore hx hb (of_decide_eq_true k1) (zconc_has hl hL) hlt rfl (fun ls' hl' => IH _ hk ls' _ H locs ws ⟨lv_sub hl' [] rfl, zLo_st1 hL hg hl', hr, hH, hP, hD, hS, hnc, hns, hpre⟩)
  case astore_n i =>
    simp only [zstep] at hz
    obtain ⟨v, r, rfl, hi, hlt, hk⟩ := zs1_sp hz
    obtain ⟨w, r', rfl, hg, hr⟩ := zL2_cons hst
    rcases zg_R hg hi with ⟨-, rfl⟩ | ⟨_, _, -, -, rfl⟩
    · exact lv_astore_nN hx hb (of_decide_eq_true k1) rfl (zconc_has hl hL) hlt rfl (fun ls' hl' => IH _ hk ls' _ H locs ws ⟨lv_sub hl' [] rfl, zLo_st1 hL hg hl', hr, hH, hP, hD, hS, hnc, hns, hpre⟩)
    · exact lv_astore_n hx hb (of_decide_eq_true k1) rfl (zconc_has hl hL) hlt rfl (fun ls' hl' => IH _ hk ls' _ H locs ws ⟨lv_sub hl' [] rfl, zLo_st1 hL hg hl', hr, hH, hP, hD, hS, hnc, hns, hpre⟩)
  case astore i =>
    simp only [zstep] at hz
    obtain ⟨v, r, rfl, hi, hlt, hk⟩ := zs1_sp hz
    obtain ⟨w, r', rfl, hg, hr⟩ := zL2_cons hst
    rcases zg_R hg hi with ⟨-, rfl⟩ | ⟨_, _, -, -, rfl⟩
    · exact lv_astoreN hx hb (of_decide_eq_true k1) (zconc_has hl hL) hlt rfl (fun ls' hl' => IH _ hk ls' _ H locs ws ⟨lv_sub hl' [] rfl, zLo_st1 hL hg hl', hr, hH, hP, hD, hS, hnc, hns, hpre⟩)
    · exact lv_astore hx hb (of_decide_eq_true k1) (zconc_has hl hL) hlt rfl (fun ls' hl' => IH _ hk ls' _ H locs ws ⟨lv_sub hl' [] rfl, zLo_st1 hL hg hl', hr, hH, hP, hD, hS, hnc, hns, hpre⟩)
  case lstore_n i =>
    simp only [zstep] at hz
    obtain ⟨v, r, rfl, hi, hlt, hk⟩ := zs2_sp hz
    obtain ⟨w, r', rfl, hg, hr⟩ := zL2_cons hst
    obtain ⟨x, rfl, -⟩ := zg_L hg hi
    exact lv_lstore_n hx hb (of_decide_eq_true k1) rfl (zconc_has hl hL) hlt rfl (fun ls' hl' => IH _ hk ls' _ H locs ws ⟨lv_sub hl' [] rfl, zLo_st2 hL hg hl', hr, hH, hP, hD, hS, hnc, hns, hpre⟩)
  case lstore i =>
    simp only [zstep] at hz
    obtain ⟨v, r, rfl, hi, hlt, hk⟩ := zs2_sp hz
    obtain ⟨w, r', rfl, hg, hr⟩ := zL2_cons hst
    obtain ⟨x, rfl, -⟩ := zg_L hg hi
    exact lv_lstore hx hb (of_decide_eq_true k1) (zconc_has hl hL) hlt rfl (fun ls' hl' => IH _ hk ls' _ H locs ws ⟨lv_sub hl' [] rfl, zLo_st2 hL hg hl', hr, hH, hP, hD, hS, hnc, hns, hpre⟩)
  case iinc i n =>
    simp only [zstep] at hz
    split at hz
    · next x hv =>
      obtain ⟨h1, hk⟩ := z_and hz
      obtain ⟨w, hw, hg⟩ := zLo_get hL hv
      cases hg
      have hc := zconc_has hl hL
      have hm : (i, Value.int x) ∈ zconc L ls := by
        have h9 := zconc_has hl hL
        unfold zget at hv
        split at hv
        · next q hq =>
          have h0 := List.find?_some hq
          have h2 : q.1 = i := Nat.eq_of_beq_eq_true h0
          refine List.mem_map.mpr ⟨q, List.mem_of_find?_eq_some hq, ?_⟩
          rw [h2, hw]
          rfl
        · cases hv
      obtain ⟨j, hj⟩ := List.getElem?_of_mem hm
      exact lv_iinc hx hb (of_decide_eq_true k1) hc hj rfl (z_blt h1) rfl (fun ls' hl' => IH _ hk ls' _ H locs ws ⟨lv_sub hl' [] rfl, zLo_st1 hL rfl hl', hst, hH, hP, hD, hS, hnc, hns, hpre⟩)
    · cases hz
  case iadd =>
    simp only [zstep] at hz
    obtain ⟨x, y, rc', v, r, rfl, hg, hr, hk⟩ := zb2_sp (ρ := zrho ws ext) hz hst
    exact lv_iadd hx hb (of_decide_eq_true k1) (IH _ hk ls _ H locs ws ⟨hl, hL, ⟨hg, hr⟩, hH, hP, hD, hS, hnc, hns, hpre⟩)
  case isub =>
    simp only [zstep] at hz
    obtain ⟨x, y, rc', v, r, rfl, hg, hr, hk⟩ := zb2_sp (ρ := zrho ws ext) hz hst
    exact lv_isub hx hb (of_decide_eq_true k1) (IH _ hk ls _ H locs ws ⟨hl, hL, ⟨hg, hr⟩, hH, hP, hD, hS, hnc, hns, hpre⟩)
  case imul =>
    simp only [zstep] at hz
    obtain ⟨x, y, rc', v, r, rfl, hg, hr, hk⟩ := zml_sp (ρ := zrho ws ext) hz hst
    exact lv_imul hx hb (of_decide_eq_true k1) (IH _ hk ls _ H locs ws ⟨hl, hL, ⟨hg, hr⟩, hH, hP, hD, hS, hnc, hns, hpre⟩)
  case iand =>
    simp only [zstep] at hz
    obtain ⟨x, y, rc', v, r, rfl, hg, hr, hk⟩ := zb2_sp (ρ := zrho ws ext) hz hst
    exact lv_iand hx hb (of_decide_eq_true k1) (IH _ hk ls _ H locs ws ⟨hl, hL, ⟨hg, hr⟩, hH, hP, hD, hS, hnc, hns, hpre⟩)
  case ior =>
    simp only [zstep] at hz
    obtain ⟨x, y, rc', v, r, rfl, hg, hr, hk⟩ := zb2_sp (ρ := zrho ws ext) hz hst
    exact lv_ior hx hb (of_decide_eq_true k1) (IH _ hk ls _ H locs ws ⟨hl, hL, ⟨hg, hr⟩, hH, hP, hD, hS, hnc, hns, hpre⟩)
  case ixor =>
    simp only [zstep] at hz
    obtain ⟨x, y, rc', v, r, rfl, hg, hr, hk⟩ := zb2_sp (ρ := zrho ws ext) hz hst
    exact lv_ixor hx hb (of_decide_eq_true k1) (IH _ hk ls _ H locs ws ⟨hl, hL, ⟨hg, hr⟩, hH, hP, hD, hS, hnc, hns, hpre⟩)
  case ishl =>
    simp only [zstep] at hz
    obtain ⟨x, y, rc', v, r, rfl, hg, hr, hk⟩ := zb2_sp (ρ := zrho ws ext) hz hst
    exact lv_ishl hx hb (of_decide_eq_true k1) (IH _ hk ls _ H locs ws ⟨hl, hL, ⟨hg, hr⟩, hH, hP, hD, hS, hnc, hns, hpre⟩)
  case ishr =>
    simp only [zstep] at hz
    obtain ⟨x, y, rc', v, r, rfl, hg, hr, hk⟩ := zb2_sp (ρ := zrho ws ext) hz hst
    exact lv_ishr hx hb (of_decide_eq_true k1) (IH _ hk ls _ H locs ws ⟨hl, hL, ⟨hg, hr⟩, hH, hP, hD, hS, hnc, hns, hpre⟩)
  case iushr =>
    simp only [zstep] at hz
    obtain ⟨x, y, rc', v, r, rfl, hg, hr, hk⟩ := zb2_sp (ρ := zrho ws ext) hz hst
    exact lv_iushr hx hb (of_decide_eq_true k1) rfl (IH _ hk ls _ H locs ws ⟨hl, hL, ⟨hg, hr⟩, hH, hP, hD, hS, hnc, hns, hpre⟩)
  case idiv =>
    simp only [zstep] at hz
    obtain ⟨x, y, rc', v, r, rfl, hne, hg, hr, hk⟩ := zdv_sp (ρ := zrho ws ext) hz hst
    exact lv_idiv hx hb (of_decide_eq_true k1) hne (IH _ hk ls _ H locs ws ⟨hl, hL, ⟨hg, hr⟩, hH, hP, hD, hS, hnc, hns, hpre⟩)
  case irem =>
    simp only [zstep] at hz
    obtain ⟨x, y, rc', v, r, rfl, hne, hg, hr, hk⟩ := zdv_sp (ρ := zrho ws ext) hz hst
    exact lv_irem hx hb (of_decide_eq_true k1) hne (IH _ hk ls _ H locs ws ⟨hl, hL, ⟨hg, hr⟩, hH, hP, hD, hS, hnc, hns, hpre⟩)
  case ineg =>
    simp only [zstep] at hz
    split at hz
    · obtain ⟨w, rest, rfl, hg, hrest⟩ := zL2_cons hst
      cases hg
      exact lv_ineg hx hb (of_decide_eq_true k1) (IH _ hz ls _ H locs ws ⟨hl, hL, ⟨rfl, hrest⟩, hH, hP, hD, hS, hnc, hns, hpre⟩)
    · cases hz
  case ladd =>
    simp only [zstep] at hz
    obtain ⟨x, y, rc', v, r, rfl, hg, hr, hk⟩ := zb2l_sp (ρ := zrho ws ext) hz hst
    exact lv_ladd hx hb (of_decide_eq_true k1) (IH _ hk ls _ H locs ws ⟨hl, hL, ⟨hg, hr⟩, hH, hP, hD, hS, hnc, hns, hpre⟩)
  case lsub =>
    simp only [zstep] at hz
    obtain ⟨x, y, rc', v, r, rfl, hg, hr, hk⟩ := zb2l_sp (ρ := zrho ws ext) hz hst
    exact lv_lsub hx hb (of_decide_eq_true k1) (IH _ hk ls _ H locs ws ⟨hl, hL, ⟨hg, hr⟩, hH, hP, hD, hS, hnc, hns, hpre⟩)
  case ldiv =>
    simp only [zstep] at hz
    obtain ⟨x, y, rc', v, r, rfl, hne, hg, hr, hk⟩ := zdvl_sp (ρ := zrho ws ext) hz hst
    exact lv_ldiv hx hb (of_decide_eq_true k1) hne (IH _ hk ls _ H locs ws ⟨hl, hL, ⟨hg, hr⟩, hH, hP, hD, hS, hnc, hns, hpre⟩)
  case i2b =>
    simp only [zstep] at hz
    split at hz
    · obtain ⟨w, rest, rfl, hg, hrest⟩ := zL2_cons hst
      cases hg
      exact lv_i2b hx hb (of_decide_eq_true k1) rfl (IH _ hz ls _ H locs ws ⟨hl, hL, ⟨rfl, hrest⟩, hH, hP, hD, hS, hnc, hns, hpre⟩)
    · cases hz
  case i2s =>
    simp only [zstep] at hz
    split at hz
    · obtain ⟨w, rest, rfl, hg, hrest⟩ := zL2_cons hst
      cases hg
      exact lv_i2s hx hb (of_decide_eq_true k1) rfl (IH _ hz ls _ H locs ws ⟨hl, hL, ⟨rfl, hrest⟩, hH, hP, hD, hS, hnc, hns, hpre⟩)
    · cases hz
  case lmul =>
    simp only [zstep] at hz
    obtain ⟨x, y, rc', v, r, rfl, hg, hr, hk⟩ := zb2l_sp (ρ := zrho ws ext) hz hst
    exact lv_lmul hx hb (of_decide_eq_true k1) (IH _ hk ls _ H locs ws ⟨hl, hL, ⟨hg, hr⟩, hH, hP, hD, hS, hnc, hns, hpre⟩)
  case land =>
    simp only [zstep] at hz
    obtain ⟨x, y, rc', v, r, rfl, hg, hr, hk⟩ := zb2l_sp (ρ := zrho ws ext) hz hst
    exact lv_land hx hb (of_decide_eq_true k1) (IH _ hk ls _ H locs ws ⟨hl, hL, ⟨hg, hr⟩, hH, hP, hD, hS, hnc, hns, hpre⟩)
  case lor =>
    simp only [zstep] at hz
    obtain ⟨x, y, rc', v, r, rfl, hg, hr, hk⟩ := zb2l_sp (ρ := zrho ws ext) hz hst
    exact lv_lor hx hb (of_decide_eq_true k1) (IH _ hk ls _ H locs ws ⟨hl, hL, ⟨hg, hr⟩, hH, hP, hD, hS, hnc, hns, hpre⟩)
  case lxor =>
    simp only [zstep] at hz
    obtain ⟨x, y, rc', v, r, rfl, hg, hr, hk⟩ := zb2l_sp (ρ := zrho ws ext) hz hst
    exact lv_lxor hx hb (of_decide_eq_true k1) (IH _ hk ls _ H locs ws ⟨hl, hL, ⟨hg, hr⟩, hH, hP, hD, hS, hnc, hns, hpre⟩)
  case lshl =>
    simp only [zstep] at hz
    obtain ⟨x, y, rc', v, r, rfl, hg, hr, hk⟩ := zshl_sp (ρ := zrho ws ext) hz hst
    exact lv_lshl hx hb (of_decide_eq_true k1) rfl (IH _ hk ls _ H locs ws ⟨hl, hL, ⟨hg, hr⟩, hH, hP, hD, hS, hnc, hns, hpre⟩)
  case lushr =>
    simp only [zstep] at hz
    obtain ⟨x, y, rc', v, r, rfl, hg, hr, hk⟩ := zshl_sp (ρ := zrho ws ext) hz hst
    exact lv_lushr hx hb (of_decide_eq_true k1) rfl (IH _ hk ls _ H locs ws ⟨hl, hL, ⟨hg, hr⟩, hH, hP, hD, hS, hnc, hns, hpre⟩)
  case i2l =>
    simp only [zstep] at hz
    split at hz
    · obtain ⟨w, rest, rfl, hg, hrest⟩ := zL2_cons hst
      cases hg
      exact lv_i2l hx hb (of_decide_eq_true k1) rfl (IH _ hz ls _ H locs ws ⟨hl, hL, ⟨rfl, hrest⟩, hH, hP, hD, hS, hnc, hns, hpre⟩)
    · obtain ⟨w, rest, rfl, ⟨x, rfl, g1, g2⟩, hrest⟩ := zL2_cons hst
      exact lv_i2l hx hb (of_decide_eq_true k1) rfl (IH _ hz ls _ H locs ws ⟨hl, hL, ⟨⟨x.toInt64, rfl, by simpa using g1, by simpa using g2⟩, hrest⟩, hH, hP, hD, hS, hnc, hns, hpre⟩)
    · cases hz
  case l2i =>
    simp only [zstep] at hz
    split at hz
    · obtain ⟨w, rest, rfl, hg, hrest⟩ := zL2_cons hst
      cases hg
      exact lv_l2i hx hb (of_decide_eq_true k1) rfl (IH _ hz ls _ H locs ws ⟨hl, hL, ⟨rfl, hrest⟩, hH, hP, hD, hS, hnc, hns, hpre⟩)
    · obtain ⟨w, rest, rfl, hg, hrest⟩ := zL2_cons hst
      obtain ⟨h1, hk⟩ := z_and hz
      obtain ⟨x, rfl, -⟩ := zg_L hg h1
      exact lv_l2i hx hb (of_decide_eq_true k1) rfl (IH _ hk ls _ H locs ws ⟨hl, hL, ⟨zg_I0 _ _, hrest⟩, hH, hP, hD, hS, hnc, hns, hpre⟩)
    · cases hz
  case lcmp =>
    simp only [zstep] at hz
    split at hz
    · obtain ⟨wy, wx, rest, rfl, gy, gx, hrest⟩ := zL2_2 hst
      obtain ⟨h1, hz⟩ := z_and hz
      obtain ⟨h2, hz⟩ := z_and hz
      obtain ⟨x, rfl, bx⟩ := zg_L gx h1
      obtain ⟨y, rfl, bb⟩ := zg_L gy h2
      exact W.lcmp hx hb (of_decide_eq_true k1) (IH _ hz ls _ H locs ws ⟨hl, hL, ⟨zcmpL_g bx bb, hrest⟩, hH, hP, hD, hS, hnc, hns, hpre⟩)
    · cases hz
  case dup =>
    simp only [zstep] at hz
    split at hz
    · obtain ⟨w, rest, rfl, hg, hrest⟩ := zL2_cons hst
      obtain ⟨h1, hk⟩ := z_and hz
      exact lv_dup hx hb (of_decide_eq_true k1) (by rw [zg_cat hg]; exact Nat.eq_of_beq_eq_true h1) (IH _ hk ls _ H locs ws ⟨hl, hL, ⟨hg, hg, hrest⟩, hH, hP, hD, hS, hnc, hns, hpre⟩)
    · cases hz
  case pop =>
    simp only [zstep] at hz
    split at hz
    · obtain ⟨w, rest, rfl, hg, hrest⟩ := zL2_cons hst
      obtain ⟨h1, hk⟩ := z_and hz
      exact lv_pop hx hb (of_decide_eq_true k1) (by rw [zg_cat hg]; exact Nat.eq_of_beq_eq_true h1) (IH _ hk ls _ H locs ws ⟨hl, hL, hrest, hH, hP, hD, hS, hnc, hns, hpre⟩)
    · cases hz
  case dup2 =>
    simp only [zstep] at hz
    split at hz
    · obtain ⟨w1, w2, rest, rfl, g1, g2, hrest⟩ := zL2_2 hst
      obtain ⟨h1, hz⟩ := z_and hz
      obtain ⟨h2, hk⟩ := z_and hz
      exact lv_dup2_11 hx hb (of_decide_eq_true k1) (by rw [zg_cat g1]; exact Nat.eq_of_beq_eq_true h1) (by rw [zg_cat g2]; exact Nat.eq_of_beq_eq_true h2) (IH _ hk ls _ H locs ws ⟨hl, hL, ⟨g1, g2, g1, g2, hrest⟩, hH, hP, hD, hS, hnc, hns, hpre⟩)
    · cases hz
  case dup_x1 =>
    simp only [zstep] at hz
    split at hz
    · obtain ⟨w1, w2, rest, rfl, g1, g2, hrest⟩ := zL2_2 hst
      obtain ⟨h1, hz⟩ := z_and hz
      obtain ⟨h2, hk⟩ := z_and hz
      exact lv_dup_x1 hx hb (of_decide_eq_true k1) (by rw [zg_cat g1]; exact Nat.eq_of_beq_eq_true h1) (by rw [zg_cat g2]; exact Nat.eq_of_beq_eq_true h2) (IH _ hk ls _ H locs ws ⟨hl, hL, ⟨g1, g2, g1, hrest⟩, hH, hP, hD, hS, hnc, hns, hpre⟩)
    · cases hz
  case ifCond cd off => exact z_ifc C IH hrel k1 hz
  case if_icmp cd off => exact z_icmp C IH hrel k1 hz
  case goto off =>
    simp only [zstep] at hz
    obtain ⟨t, ht, hk⟩ := zof_sp hz
    exact lv_goto hx hb (of_decide_eq_true k1) ht (IH _ hk ls _ H locs ws ⟨hl, hL, hst, hH, hP, hD, hS, hnc, hns, hpre⟩)
  case ifnull off =>
    simp only [zstep] at hz
    split at hz
    · obtain ⟨w, rest, rfl, hg, hrest⟩ := zL2_cons hst
      cases hg
      obtain ⟨t, ht, hk⟩ := zof_sp hz
      exact lv_ifnullN hx hb (of_decide_eq_true k1) ht (IH _ hk ls _ H locs ws ⟨hl, hL, hrest, hH, hP, hD, hS, hnc, hns, hpre⟩)
    · obtain ⟨w, rest, rfl, ⟨b0, hb0, rfl⟩, hrest⟩ := zL2_cons hst
      exact lv_ifnull hx hb (of_decide_eq_true k1) (IH _ hz ls _ H locs ws ⟨hl, hL, hrest, hH, hP, hD, hS, hnc, hns, hpre⟩)
    · cases hz
  case ifnonnull off =>
    simp only [zstep] at hz
    split at hz
    · obtain ⟨w, rest, rfl, ⟨b0, hb0, rfl⟩, hrest⟩ := zL2_cons hst
      obtain ⟨t, ht, hk⟩ := zof_sp hz
      exact lv_ifnonnull hx hb (of_decide_eq_true k1) ht (IH _ hk ls _ H locs ws ⟨hl, hL, hrest, hH, hP, hD, hS, hnc, hns, hpre⟩)
    · obtain ⟨w, rest, rfl, hg, hrest⟩ := zL2_cons hst
      cases hg
      exact lv_ifnonnullN hx hb (of_decide_eq_true k1) (IH _ hz ls _ H locs ws ⟨hl, hL, hrest, hH, hP, hD, hS, hnc, hns, hpre⟩)
    · cases hz
  case tableswitch df lo hi offs => exact z_tsw C IH hrel k1 hz
  case getfield ix => exact z_getf C IH hrel k1 k2 k3 hz
  case putfield ix => exact z_putf C IH hrel k1 k2 k3 hz
  case new ix => exact z_new C IH hrel k1 k2 k3 hz
  case newarray ty => exact z_newa C IH hrel k1 k3 hz
  case anewarray ix => exact z_newq C IH hrel k1 k3 hz
  case multianewarray ix dd => exact z_mna C IH hrel k1 k2 k3 hz
  case iaload => exact z_ild C IH hrel k1 hz
  case baload => exact z_zld C IH hrel k1 hz
  case bastore => exact z_zst C IH hrel k1 hz
  case getstatic ix => exact z_gst C IH hrel k1 k3 hz
  case laload => exact z_lld C IH hrel k1 hz
  case aaload => exact z_ald C IH hrel k1 hz
  case iastore => exact z_ist C IH hrel k1 hz
  case lastore => exact z_lst C IH hrel k1 hz
  case aastore => exact z_ast C IH hrel k1 hz
  case arraylength => exact z_alen C IH hrel k1 hz
  case ldc ix => exact z_ldc C IH hrel k1 k2 k3 hz
  case ldc_w ix =>
    simp only [zside] at k2
    split at k2
    · exact lv_ldcw hx hb hown (hts _ (k3 _ List.mem_cons_self)) (of_decide_eq_true k1) (IH _ hz ls _ H locs ws ⟨hl, hL, ⟨rfl, hst⟩, hH, hP, hD, hS, hnc, hns, hpre⟩)
    · cases k2
  case ldc2_w ix =>
    simp only [zside] at k2
    split at k2
    · exact lv_ldc2 hx hb hown (hts _ (k3 _ List.mem_cons_self)) (of_decide_eq_true k1) (IH _ hz ls _ H locs ws ⟨hl, hL, ⟨rfl, hst⟩, hH, hP, hD, hS, hnc, hns, hpre⟩)
    · cases k2
  case invokevirtual ix =>
    simp only [zstep] at hz
    split at hz
    · refine z_invV C hG hTN hOk HM IH hrel (fun E' hE => ?_) (of_decide_eq_true k1) hz
      have k5 : (match prog a with | some E => Nat.blt (zEk E) 6 && (decide (E.1.name ≠ "<init>")) | none => false) = true := k2
      rw [hE] at k5
      obtain ⟨q1, q2⟩ := z_and k5
      refine ⟨z_blt q1, of_decide_eq_true q2, k3 _ ?_⟩
      simp only [zwords]
      rw [hE]
      exact List.mem_cons_self
    · split at hz
      · next q r =>
        split at hz
        · next x hx1 =>
          obtain ⟨h1, hk⟩ := z_and hz
          exact z_invL C hG hTN HL hLw IH hrel (k3 _ List.mem_cons_self) (of_decide_eq_true k1) hx1 (z_ble h1) hk
        · cases hz
      · cases hz
    · split at hz
      · next y q r =>
        split at hz
        · next x hx1 =>
          obtain ⟨h1, hk⟩ := z_and hz
          exact z_invC C hG hTN HL hLw IH hrel (k3 _ List.mem_cons_self) (of_decide_eq_true k1) hx1 (z_ble h1) hk
        · cases hz
      · cases hz
    · cases hz
  case invokespecial ix =>
    simp only [zstep] at hz
    split at hz
    · split at hz
      · next q r =>
        obtain ⟨w, rest, rfl, ⟨b0, hb0, rfl⟩, hrest⟩ := zL2_cons hst
        obtain ⟨h1, hk⟩ := z_and hz
        have h8 : (rest.map fun v => v.category).sum ≤ 8 := by
          rw [zL2_sum hrest]
          exact z_ble h1
        have h9 := lv_room (m := m) (pc := pc) (ls := ls) (rest := .ref b0 :: rest) (st := rest) h8
        exact W.objInit hx hb hown (hts _ (k3 _ List.mem_cons_self)) (hts _ (hgl _ (by simp [zglob]))) (hts _ (hgl _ (by simp [zglob]))) rfl (by rw [hml]; exact hl.1) rfl (of_decide_eq_true k1) (by omega) (by omega) (IH _ hk ls _ H locs ws ⟨hl, hL, hrest, hH, hP, hD, hS, hnc, hns, hpre⟩)
      · cases hz
    · next hb6 =>
      refine z_invI C hG hTN hOk HM IH hrel (fun E' hE => ?_) (of_decide_eq_true k1) hz
      have k5 : (Nat.beq b 6 || (Nat.ble b 1 && (match prog a with | some E => Nat.blt (zEk E) 6 && (decide (E.1.name = "<init>")) | none => false))) = true := k2
      have n6 : Nat.beq b 6 = false := by
        rw [z_beq]
        simpa using hb6
      rw [n6, Bool.false_or, hE] at k5
      obtain ⟨q0, q1⟩ := z_and k5
      obtain ⟨q1, q2⟩ := z_and q1
      have q0 := z_ble q0
      refine ⟨z_blt q1, of_decide_eq_true q2, ?_⟩
      match b, q0 with
      | 0, _ =>
        refine Or.inl (k3 _ ?_)
        simp only [zwords]
        rw [hE]
        exact List.mem_cons_self
      | 1, _ =>
        refine Or.inr (k4 _ ?_)
        simp only [zwordsN]
        rw [hE]
        exact List.mem_cons_self
  case invokestatic ix =>
    simp only [zstep] at hz
    split at hz
    · split at hz
      · next n dp q1 sp q0 =>
        split at hz
        · cases hz
        · next g1 =>
          split at hz
          · cases hz
          · next g2 =>
            split at hz
            · cases hz
            · next g3 =>
              obtain ⟨f, j1, j2, hz⟩ := zrow_sp hz
              obtain ⟨g, j3, j4, hz⟩ := zrow_sp hz
              obtain ⟨j5, hz⟩ := z_and hz
              obtain ⟨j6, hz⟩ := z_and hz
              exact z_acopy C hgl IH hrel (of_decide_eq_true k1) (k3 _ List.mem_cons_self) rfl g1 g2 g3 j1 j3 j2 j4 (z_ble j5) (z_ble j6) hz
      · cases hz
    · split at hz
      · obtain ⟨w1, w2, rest, rfl, g1, g2, hrest⟩ := zL2_2 hst
        cases g1
        cases g2
        obtain ⟨h1, hk⟩ := z_and hz
        have h8 : (rest.map fun v => v.category).sum ≤ 8 := by
          rw [zL2_sum hrest]
          exact z_ble h1
        exact va_mmin hx hb (by rw [hml]; exact hl.1.symm) hown (hts _ (k3 _ List.mem_cons_self)) (hts _ (hgl _ (by simp [zglob]))) (hts _ (hgl _ (by simp [zglob]))) (hts _ (hgl _ (by simp [zglob]))) (by omega) (by omega) (by omega) (by omega) (of_decide_eq_true k1) (IH _ hk ls _ H locs ws ⟨hl, hL, ⟨rfl, hrest⟩, hH, hP, hD, hS, hnc, hns, hpre⟩)
      · cases hz
    · split at hz
      · obtain ⟨w1, w2, rest, rfl, g1, g2, hrest⟩ := zL2_2 hst
        cases g1
        cases g2
        obtain ⟨h1, hk⟩ := z_and hz
        have h8 : (rest.map fun v => v.category).sum ≤ 8 := by
          rw [zL2_sum hrest]
          exact z_ble h1
        exact va_mmax hx hb (by rw [hml]; exact hl.1.symm) hown (hts _ (k3 _ List.mem_cons_self)) (hts _ (hgl _ (by simp [zglob]))) (hts _ (hgl _ (by simp [zglob]))) (hts _ (hgl _ (by simp [zglob]))) (by omega) (by omega) (by omega) (by omega) (of_decide_eq_true k1) (IH _ hk ls _ H locs ws ⟨hl, hL, ⟨rfl, hrest⟩, hH, hP, hD, hS, hnc, hns, hpre⟩)
      · cases hz
    · split at hz
      · next n dp q1 sp q0 =>
        split at hz
        · cases hz
        · next g1 =>
          split at hz
          · cases hz
          · next g2 =>
            split at hz
            · cases hz
            · next g3 =>
              obtain ⟨f, j1, j2, hz⟩ := zrow_sp hz
              obtain ⟨g, j3, j4, hz⟩ := zrow_sp hz
              obtain ⟨j5, hz⟩ := z_and hz
              obtain ⟨j6, hz⟩ := z_and hz
              exact z_acopyl C hgl IH hrel (of_decide_eq_true k1) (k3 _ List.mem_cons_self) rfl g1 g2 g3 j1 j3 j2 j4 (z_ble j5) (z_ble j6) hz
      · cases hz
    · next hb7 hb9 hb10 hb12 =>
      refine z_invS C hG hTN hOk HM IH hrel (fun E' hE => ?_) (of_decide_eq_true k1) hz
      have k5 : (Nat.beq b 7 || Nat.beq b 9 || Nat.beq b 10 || Nat.beq b 12 || (Nat.ble b 1 && (match prog a with | some E => Nat.beq (zEk E) 99 | none => false))) = true := k2
      have n7 : Nat.beq b 7 = false := by
        rw [z_beq]
        simpa using hb7
      have n9 : Nat.beq b 9 = false := by
        rw [z_beq]
        simpa using hb9
      have n10 : Nat.beq b 10 = false := by
        rw [z_beq]
        simpa using hb10
      have n12 : Nat.beq b 12 = false := by
        rw [z_beq]
        simpa using hb12
      rw [n7, n9, n10, n12, Bool.false_or, Bool.false_or, Bool.false_or, Bool.false_or, hE] at k5
      obtain ⟨q0, q1⟩ := z_and k5
      have q0 := z_ble q0
      refine ⟨Nat.eq_of_beq_eq_true q1, ?_⟩
      match b, q0 with
      | 0, _ =>
        refine Or.inl (k3 _ ?_)
        simp only [zwords]
        rw [hE]
        exact List.mem_cons_self
      | 1, _ =>
        refine Or.inr (k4 _ ?_)
        simp only [zwordsN]
        rw [hE]
        exact List.mem_cons_self
end
