section
variable {p : Program} {l : Launch} {e : Env} {R : Room} {s : State} {m : MethodId} {args : Array Value} {below : List Frame} {meth : Method} {c : Code} {Q : State → Prop}
variable {prog : Nat → Option zE} {zst : zSt} {TG TN : List Cond} {scr : List zV} {adK adV : Nat → Nat} {ext : Nat → Option Nat} {D : va_G} {ct : Nat → ClassId} {A : Nat → Prop} {E : zE} {rc rs d : Nat} {ws0 : va_W}
variable {K : zS → Bool} {cv : zV} {a b k pc nc ns : Nat} {L : zL} {st : List zV} {h : zH} {ls : Array Slot} {stc : List Value} {H : Heap} {locs : List Loc} {ws : va_W} {cc : zK}
theorem z_push {x : zV} {t N : Nat} {r : List zV} {rest : List Value} {q : Nat} {f : (Nat → Int32) ⊕ (Nat → Int64) ⊕ (Nat → UInt32) ⊕ (Nat → UInt64) ⊕ (Nat → Option Nat)} {H1 : Heap} {nc' ns' : Nat} (ht : t < 6) (hk : zkd t f) (hv : ∀ (ρ : Nat → Option Nat) (j : Nat), zg ρ x (zval f j))
    (hl : lv_has ls (zEm E) []) (hL : zLo (zrho ws ext) L ls) (hr : zL2 (zrho ws ext) r rest) (hH : zHp (zrho ws ext) ct h ws) (h3 : h.length < 1000000) (hP1 : va_P D vwCl (ws ++ [(q, .inl (ct t, N, f))]) H1) (hD1 : va_D A (ws ++ [(q, .inl (ct t, N, f))])) (hS1 : va_S A s.heap H1 locs) (hnc : nc' ≤ rc) (hns : ns' ≤ rs) (hpre : zPre ws0 ws) :
    zRel ext D ct (zEm E) rc rs A s.heap ws0 L (.inl (.ref h.length) :: r) (h ++ [(10 + t, List.replicate N x)]) nc' ns' ls (.ref q :: rest) H1 locs (ws ++ [(q, .inl (ct t, N, f))]) := by
  have hm : ∀ k9 a9 : Nat, zrho ws ext k9 = some a9 → zrho (ws ++ [(q, .inl (ct t, N, f))]) ext k9 = some a9 := fun _ _ hk => zrho_app hk
  refine ⟨hl, zLo_mono hm hL, ⟨⟨q, ?_, rfl⟩, zL2_mono hm hr⟩, zHp_app (zHp_mono hm hH) (zHp_one ⟨t, rfl, ht, rfl, by simp, hk, fun j a9 hj => ?_⟩), hP1, hD1, hS1, hnc, hns, zPre_tr hpre (zPre_app _ _)⟩
  · refine zrho_at h3 (e := .inl (ct t, N, f)) ?_
    rw [hH.1, List.getElem?_append_right (Nat.le_refl _), Nat.sub_self]
    rfl
  · have h1 := List.eq_of_mem_replicate (List.mem_of_getElem? hj)
    rw [h1]
    exact hv _ _
theorem z_newa (C : zCx p R s m args meth c prog zst TG TN scr adK adV ext D ct A E rc rs d) (IH : ∀ x, K x = true → zGo p l e R s m args below meth c Q ext D ct (zEm E) rc rs A ws0 x) (hrel : zRel ext D ct (zEm E) rc rs A s.heap ws0 L st h nc ns ls stc H locs ws) {ty : ArrayType}
    (k1 : zdec E.2.1 pc (.newarray ty) = true) (k3 : ∀ w ∈ zwords prog E.1.cls (.newarray ty) cv a b, w ∈ TG)
    (hz : zstep zNf zdfl zslen prog (zEm E) rc rs scr cc K (.newarray ty) cv a b k pc L st h nc ns = true) : W p l e R s m args below meth c H locs nc ns Q (F0 m pc ls stc) := by
  have hdg : decode E.2.1 pc = .ok (.newarray ty, 2) := of_decide_eq_true k1
  obtain ⟨hl, hL, hst, hH, hP, hD, hS, hnc, hns, hpre⟩ := hrel
  obtain ⟨hx, hb, hml, hown, hts, hini, hK, -, -, -, -, -, hA, -, -, hrc, hrs, -, huw⟩ := C
  simp only [zstep] at hz
  split at hz
  · next n r =>
    obtain ⟨v0, rest, rfl, h0, hrest⟩ := zL2_cons hst
    cases h0
    split at hz
    · cases hz
    · next hn =>
      obtain ⟨h1, hz⟩ := z_and hz
      obtain ⟨h2, hz⟩ := z_and hz
      obtain ⟨h3, hz⟩ := z_and hz
      obtain ⟨h4, hz⟩ := z_and hz
      have h1 := z_ble h1
      have h2 := z_ble h2
      have h3 := z_ble h3
      have h4 := z_blt h4
      split at hz
      · refine va_newa (atype := .int) hx hb (hts _ (k3 _ List.mem_cons_self)) (ty := .int) rfl hK hP hD hS hA (a0 := (n.toNatClampNeg, .inl (fun _ => 0))) (fun cA => rfl) hn rfl (by show n.toNatClampNeg * 4 ≤ _; omega) (by omega) (by omega) hdg (fun q cA H1 hK1 hP1 hD1 hS1 => ?_)
        have hc := z_ctu (t := 0) (by omega) hK hK1
        subst hc
        exact IH _ hz ls _ H1 locs _ (z_push (t := 0) (by omega) ⟨_, rfl⟩ (fun _ _ => rfl) hl hL hrest hH h4 hP1 hD1 hS1 h2 h3 hpre)
      · refine va_newa (atype := .long) hx hb (hts _ (k3 _ List.mem_cons_self)) (ty := .long) rfl hK hP hD hS hA (a0 := (n.toNatClampNeg, .inr (.inl (fun _ => 0)))) (fun cA => rfl) hn rfl (by show n.toNatClampNeg * 8 ≤ _; omega) (by omega) (by omega) hdg (fun q cA H1 hK1 hP1 hD1 hS1 => ?_)
        have hc := z_ctu (t := 1) (by omega) hK hK1
        subst hc
        exact IH _ hz ls _ H1 locs _ (z_push (t := 1) (by omega) ⟨_, rfl⟩ (fun _ _ => rfl) hl hL hrest hH h4 hP1 hD1 hS1 h2 h3 hpre)
      · refine va_newa (atype := .boolean) hx hb (hts _ (k3 _ List.mem_cons_self)) (ty := .boolean) rfl hK hP hD hS hA (a0 := (n.toNatClampNeg, .inl (fun _ => 0))) (fun cA => rfl) hn rfl (by show n.toNatClampNeg * 1 ≤ _; omega) (by omega) (by omega) hdg (fun q cA H1 hK1 hP1 hD1 hS1 => ?_)
        have hc := z_ctu (t := 5) (by omega) hK hK1
        subst hc
        exact IH _ hz ls _ H1 locs _ (z_push (t := 5) (by omega) ⟨_, rfl⟩ (fun _ _ => rfl) hl hL hrest hH h4 hP1 hD1 hS1 h2 h3 hpre)
      · cases hz
  · cases hz
theorem z_newq (C : zCx p R s m args meth c prog zst TG TN scr adK adV ext D ct A E rc rs d) (IH : ∀ x, K x = true → zGo p l e R s m args below meth c Q ext D ct (zEm E) rc rs A ws0 x) (hrel : zRel ext D ct (zEm E) rc rs A s.heap ws0 L st h nc ns ls stc H locs ws) {ix : Nat}
    (k1 : zdec E.2.1 pc (.anewarray ix) = true) (k3 : ∀ w ∈ zwords prog E.1.cls (.anewarray ix) cv a b, w ∈ TG)
    (hz : zstep zNf zdfl zslen prog (zEm E) rc rs scr cc K (.anewarray ix) cv a b k pc L st h nc ns = true) : W p l e R s m args below meth c H locs nc ns Q (F0 m pc ls stc) := by
  have hdg : decode E.2.1 pc = .ok (.anewarray ix, 3) := of_decide_eq_true k1
  obtain ⟨hl, hL, hst, hH, hP, hD, hS, hnc, hns, hpre⟩ := hrel
  obtain ⟨hx, hb, hml, hown, hts, hini, hK, -, -, hAO, -, -, hA, -, -, hrc, hrs, -, huw⟩ := C
  simp only [zstep] at hz
  split at hz
  · next n r =>
    obtain ⟨v0, rest, rfl, h0, hrest⟩ := zL2_cons hst
    cases h0
    split at hz
    · cases hz
    · next hn =>
      obtain ⟨h1, hz⟩ := z_and hz
      obtain ⟨h2, hz⟩ := z_and hz
      obtain ⟨h3, hz⟩ := z_and hz
      obtain ⟨h4, hz⟩ := z_and hz
      have h1 := z_ble h1
      have h2 := z_ble h2
      have h3 := z_ble h3
      have h4 := z_blt h4
      refine va_newq hx hb hown (hts _ (k3 _ List.mem_cons_self)) hAO hK hP hD hS hA hn rfl (by omega) (by omega) (by omega) hdg (fun q cA H1 hK1 hP1 hD1 hS1 => ?_)
      have hc := z_ctu (t := 2) (by omega) hK hK1
      subst hc
      exact IH _ hz ls _ H1 locs _ (z_push (t := 2) (f := .inr (.inr (.inr (.inr (fun _ => none))))) (by omega) ⟨_, rfl⟩ (fun _ _ => rfl) hl hL hrest hH h4 hP1 hD1 hS1 h2 h3 hpre)
  · cases hz
theorem z_ild (C : zCx p R s m args meth c prog zst TG TN scr adK adV ext D ct A E rc rs d) (IH : ∀ x, K x = true → zGo p l e R s m args below meth c Q ext D ct (zEm E) rc rs A ws0 x) (hrel : zRel ext D ct (zEm E) rc rs A s.heap ws0 L st h nc ns ls stc H locs ws)
    (k1 : zdec E.2.1 pc .iaload = true) (hz : zstep zNf zdfl zslen prog (zEm E) rc rs scr cc K .iaload cv a b k pc L st h nc ns = true) : W p l e R s m args below meth c H locs nc ns Q (F0 m pc ls stc) := by
  have hdg : decode E.2.1 pc = .ok (.iaload, 1) := of_decide_eq_true k1
  obtain ⟨hl, hL, hst, hH, hP, hD, hS, hnc, hns, hpre⟩ := hrel
  obtain ⟨hx, hb, hml, hown, hts, hini, hK, -, hF, -, -, -, hA, -⟩ := C
  simp only [zstep] at hz
  split at hz
  · next i q r =>
    obtain ⟨w, v0, rest, rfl, h0, ⟨b0, hb0, rfl⟩, hrest⟩ := zL2_2 hst
    cases h0
    split at hz
    · next hq =>
      subst hq
      obtain ⟨v, hv, hin, hz⟩ := zel_sp hz
      obtain ⟨-, -, -, -, ⟨b1, xs, f1, f2, f3, f4, f5⟩, -⟩ := hF
      unfold zrho at hb0
      rw [if_neg (Nat.not_lt.mpr (Nat.le_of_ble_eq_true rfl)), f1] at hb0
      cases hb0
      have hg := f5 _ _ hv
      exact va_sld hx hb f4 f3 f2 hS hin hdg (IH _ hz ls _ H locs ws ⟨hl, hL, ⟨zg_mono (fun _ _ hk => by cases hk) hg.2, hrest⟩, hH, hP, hD, hS, hnc, hns, hpre⟩)
    split at hz
    · next hq =>
      subst hq
      obtain ⟨v, hv, hin, hz⟩ := zel_sp hz
      obtain ⟨-, -, -, -, -, ⟨b1, xs, f1, f4, f6, f5⟩, -⟩ := hF
      unfold zrho at hb0
      rw [if_neg (Nat.not_lt.mpr (Nat.le_of_ble_eq_true rfl)), f1] at hb0
      cases hb0
      have hg := f5 _ _ hv
      subst hg
      exact va_ti hx hb f4 hS hin rfl hdg (IH _ hz ls _ H locs ws ⟨hl, hL, ⟨rfl, hrest⟩, hH, hP, hD, hS, hnc, hns, hpre⟩)
    · obtain ⟨vs, h1, h2, hz⟩ := zrow_sp hz
      obtain ⟨v, hv, hin, hz⟩ := zel_sp hz
      obtain ⟨n, f, g1, g2, g3, ⟨f, rfl⟩, g5⟩ := z_refarr (t := 0) hH h1 h2 hb0
      exact va_iald hx hb hK hP q 0 g1 rfl (by rw [← g3]; exact hin) hdg (IH _ hz ls _ H locs ws ⟨hl, hL, ⟨g5 _ _ hv, hrest⟩, hH, hP, hD, hS, hnc, hns, hpre⟩)
  · cases hz
theorem z_lld (C : zCx p R s m args meth c prog zst TG TN scr adK adV ext D ct A E rc rs d) (IH : ∀ x, K x = true → zGo p l e R s m args below meth c Q ext D ct (zEm E) rc rs A ws0 x) (hrel : zRel ext D ct (zEm E) rc rs A s.heap ws0 L st h nc ns ls stc H locs ws)
    (k1 : zdec E.2.1 pc .laload = true) (hz : zstep zNf zdfl zslen prog (zEm E) rc rs scr cc K .laload cv a b k pc L st h nc ns = true) : W p l e R s m args below meth c H locs nc ns Q (F0 m pc ls stc) := by
  have hdg : decode E.2.1 pc = .ok (.laload, 1) := of_decide_eq_true k1
  obtain ⟨hl, hL, hst, hH, hP, hD, hS, hnc, hns, hpre⟩ := hrel
  obtain ⟨hx, hb, hml, hown, hts, hini, hK, -, hF, -, -, -, hA, -⟩ := C
  simp only [zstep] at hz
  split at hz
  · next i q r =>
    obtain ⟨w, v0, rest, rfl, h0, ⟨b0, hb0, rfl⟩, hrest⟩ := zL2_2 hst
    cases h0
    obtain ⟨vs, h1, h2, hz⟩ := zrow_sp hz
    obtain ⟨v, hv, hin, hz⟩ := zel_sp hz
    obtain ⟨n, f, g1, g2, g3, ⟨f, rfl⟩, g5⟩ := z_refarr (t := 1) hH h1 h2 hb0
    exact va_lald hx hb hK hP q 1 g1 rfl (by rw [← g3]; exact hin) hdg (IH _ hz ls _ H locs ws ⟨hl, hL, ⟨g5 _ _ hv, hrest⟩, hH, hP, hD, hS, hnc, hns, hpre⟩)
  · cases hz
theorem z_ald (C : zCx p R s m args meth c prog zst TG TN scr adK adV ext D ct A E rc rs d) (IH : ∀ x, K x = true → zGo p l e R s m args below meth c Q ext D ct (zEm E) rc rs A ws0 x) (hrel : zRel ext D ct (zEm E) rc rs A s.heap ws0 L st h nc ns ls stc H locs ws)
    (k1 : zdec E.2.1 pc .aaload = true) (hz : zstep zNf zdfl zslen prog (zEm E) rc rs scr cc K .aaload cv a b k pc L st h nc ns = true) : W p l e R s m args below meth c H locs nc ns Q (F0 m pc ls stc) := by
  have hdg : decode E.2.1 pc = .ok (.aaload, 1) := of_decide_eq_true k1
  obtain ⟨hl, hL, hst, hH, hP, hD, hS, hnc, hns, hpre⟩ := hrel
  obtain ⟨hx, hb, hml, hown, hts, hini, hK, -, hF, -, -, -, hA, -⟩ := C
  simp only [zstep] at hz
  split at hz
  · next i q r =>
    obtain ⟨w, v0, rest, rfl, h0, ⟨b0, hb0, rfl⟩, hrest⟩ := zL2_2 hst
    cases h0
    split at hz
    · next x hx0 =>
      obtain ⟨h2, hz⟩ := z_and hz
      obtain ⟨h3, hz⟩ := z_and hz
      have h3 := z_ble h3
      obtain ⟨h4, hz⟩ := z_and hz
      have h4 := z_ble h4
      obtain ⟨x1, x2⟩ := x
      obtain ⟨v, hv, hin, hz2⟩ := zel_sp hz
      obtain ⟨t, rfl⟩ : ∃ t, x1 = 10 + (t + 2) := ⟨x1 - 12, by have : 12 ≤ x1 := h3; omega⟩
      have h4 : 10 + (t + 2) ≤ 14 := h4
      obtain ⟨n, f, g1, g2, g3, g4, g5⟩ := z_refarr (t := t + 2) hH hx0 (z_blt h2) hb0
      obtain ⟨f, rfl⟩ : ∃ f', f = .inr (.inr (.inr (.inr f'))) := by
        match t, h4, g4 with
        | 0, _, g4 => exact g4
        | 1, _, g4 => exact g4
        | 2, _, g4 => exact g4
        | t + 3, h4, _ => exact absurd h4 (by omega)
      refine z_aald hx hb hK hP q (t + 2) (ty := ztyA (t + 2)) ?_ g1 (z_tys ct g2) (by rw [← g3]; exact hin) hdg (IH _ hz2 ls _ H locs ws ⟨hl, hL, ⟨g5 _ _ hv, hrest⟩, hH, hP, hD, hS, hnc, hns, hpre⟩)
      match t, h4 with
      | 0, _ => rfl
      | 1, _ => rfl
      | 2, _ => rfl
      | t + 3, h4 => exact absurd h4 (by omega)
    · cases hz
  · cases hz
theorem z_ist (C : zCx p R s m args meth c prog zst TG TN scr adK adV ext D ct A E rc rs d) (IH : ∀ x, K x = true → zGo p l e R s m args below meth c Q ext D ct (zEm E) rc rs A ws0 x) (hrel : zRel ext D ct (zEm E) rc rs A s.heap ws0 L st h nc ns ls stc H locs ws)
    (k1 : zdec E.2.1 pc .iastore = true) (hz : zstep zNf zdfl zslen prog (zEm E) rc rs scr cc K .iastore cv a b k pc L st h nc ns = true) : W p l e R s m args below meth c H locs nc ns Q (F0 m pc ls stc) := by
  have hdg : decode E.2.1 pc = .ok (.iastore, 1) := of_decide_eq_true k1
  obtain ⟨hl, hL, hst, hH, hP, hD, hS, hnc, hns, hpre⟩ := hrel
  obtain ⟨hx, hb, hml, hown, hts, hini, hK, -, hF, -, -, -, hA, -⟩ := C
  simp only [zstep] at hz
  split at hz
  · next v i q r =>
    obtain ⟨w, v0, rest0, rfl, hg, h0, hrest0⟩ := zL2_2 hst
    cases h0
    obtain ⟨v1, rest, rfl, ⟨b0, hb0, rfl⟩, hrest⟩ := zL2_cons hrest0
    obtain ⟨h3, hz⟩ := z_and hz
    obtain ⟨x, rfl, -⟩ := zg_I hg h3
    obtain ⟨vs, h1, h2, hz⟩ := zrow_sp hz
    obtain ⟨h4, hz⟩ := z_and hz
    obtain ⟨n, f, g1, g2, g3, ⟨f, rfl⟩, g5⟩ := z_refarr (t := 0) hH h1 h2 hb0
    refine va_iast hx hb hK hP hD hS q 0 g1 rfl (by rw [← g3]; exact zix_sp h4) hdg (fun H1 locs1 hP1 hD1 hS1 => ?_)
    have er := zrho_set (ext := ext) (e := .inl (ct 0, n, .inl (upd f i.toNatClampNeg x))) g1
    refine IH _ hz ls _ H1 locs1 _ ⟨hl, by rw [er]; exact hL, by rw [er]; exact hrest, ?_, hP1, hD1, hS1, hnc, hns, zPre_tr hpre (zPre_set g1)⟩
    rw [er]
    refine zHp_set hH ⟨0, rfl, by omega, rfl, by rw [List.length_set]; exact g3, ⟨_, rfl⟩, fun j a9 hj => ?_⟩
    rcases zset_get hj with ⟨rfl, rfl⟩ | ⟨hne, hj⟩
    · show zg _ _ (.int (upd f i.toNatClampNeg x i.toNatClampNeg))
      rw [pk_us]
      exact hg
    · show zg _ _ (.int (upd f i.toNatClampNeg x j))
      rw [pk_un hne]
      exact g5 _ _ hj
  · cases hz
theorem z_lst (C : zCx p R s m args meth c prog zst TG TN scr adK adV ext D ct A E rc rs d) (IH : ∀ x, K x = true → zGo p l e R s m args below meth c Q ext D ct (zEm E) rc rs A ws0 x) (hrel : zRel ext D ct (zEm E) rc rs A s.heap ws0 L st h nc ns ls stc H locs ws)
    (k1 : zdec E.2.1 pc .lastore = true) (hz : zstep zNf zdfl zslen prog (zEm E) rc rs scr cc K .lastore cv a b k pc L st h nc ns = true) : W p l e R s m args below meth c H locs nc ns Q (F0 m pc ls stc) := by
  have hdg : decode E.2.1 pc = .ok (.lastore, 1) := of_decide_eq_true k1
  obtain ⟨hl, hL, hst, hH, hP, hD, hS, hnc, hns, hpre⟩ := hrel
  obtain ⟨hx, hb, hml, hown, hts, hini, hK, -, hF, -, -, -, hA, -⟩ := C
  simp only [zstep] at hz
  split at hz
  · next v i q r =>
    obtain ⟨w, v0, rest0, rfl, hg, h0, hrest0⟩ := zL2_2 hst
    cases h0
    obtain ⟨v1, rest, rfl, ⟨b0, hb0, rfl⟩, hrest⟩ := zL2_cons hrest0
    obtain ⟨h3, hz⟩ := z_and hz
    obtain ⟨x, rfl, -⟩ := zg_L hg h3
    obtain ⟨vs, h1, h2, hz⟩ := zrow_sp hz
    obtain ⟨h4, hz⟩ := z_and hz
    obtain ⟨n, f, g1, g2, g3, ⟨f, rfl⟩, g5⟩ := z_refarr (t := 1) hH h1 h2 hb0
    refine va_last hx hb hK hP hD hS q 1 g1 rfl (by rw [← g3]; exact zix_sp h4) hdg (fun H1 locs1 hP1 hD1 hS1 => ?_)
    have er := zrho_set (ext := ext) (e := .inl (ct 1, n, .inr (.inl (vp_updL f i.toNatClampNeg x)))) g1
    refine IH _ hz ls _ H1 locs1 _ ⟨hl, by rw [er]; exact hL, by rw [er]; exact hrest, ?_, hP1, hD1, hS1, hnc, hns, zPre_tr hpre (zPre_set g1)⟩
    rw [er]
    refine zHp_set hH ⟨1, rfl, by omega, rfl, by rw [List.length_set]; exact g3, ⟨_, rfl⟩, fun j a9 hj => ?_⟩
    rcases zset_get hj with ⟨rfl, rfl⟩ | ⟨hne, hj⟩
    · show zg _ _ (.long (vp_updL f i.toNatClampNeg x i.toNatClampNeg))
      rw [pk_uLs]
      exact hg
    · show zg _ _ (.long (vp_updL f i.toNatClampNeg x j))
      rw [pk_uLn hne]
      exact g5 _ _ hj
  · cases hz
theorem z_ast (C : zCx p R s m args meth c prog zst TG TN scr adK adV ext D ct A E rc rs d) (IH : ∀ x, K x = true → zGo p l e R s m args below meth c Q ext D ct (zEm E) rc rs A ws0 x) (hrel : zRel ext D ct (zEm E) rc rs A s.heap ws0 L st h nc ns ls stc H locs ws)
    (k1 : zdec E.2.1 pc .aastore = true) (hz : zstep zNf zdfl zslen prog (zEm E) rc rs scr cc K .aastore cv a b k pc L st h nc ns = true) : W p l e R s m args below meth c H locs nc ns Q (F0 m pc ls stc) := by
  have hdg : decode E.2.1 pc = .ok (.aastore, 1) := of_decide_eq_true k1
  obtain ⟨hl, hL, hst, hH, hP, hD, hS, hnc, hns, hpre⟩ := hrel
  obtain ⟨hx, hb, hml, hown, hts, hini, hK, -, hF, -, -, -, hA, -⟩ := C
  simp only [zstep] at hz
  split at hz
  · next o i q r =>
    obtain ⟨w, v0, rest0, rfl, ⟨b1, hb1, rfl⟩, h0, hrest0⟩ := zL2_2 hst
    cases h0
    obtain ⟨v1, rest, rfl, ⟨b0, hb0, rfl⟩, hrest⟩ := zL2_cons hrest0
    obtain ⟨os, o1, o2, hz⟩ := zrow_sp hz
    obtain ⟨vs, h1, h2, hz⟩ := zrow_sp hz
    obtain ⟨h4, hz⟩ := z_and hz
    obtain ⟨fv, p1, p2⟩ := z_refobj hH o1 o2 (by omega) hb1
    obtain ⟨n, f, g1, g2, g3, ⟨f, rfl⟩, g5⟩ := z_refarr (t := 2) hH h1 h2 hb0
    refine va_astq hx hb hK hP hD hS q 2 o 0 (r := (RX0, TX0, 3)) g1 rfl p1 rfl (by rw [← g3]; exact zix_sp h4) hdg (fun H1 locs1 hP1 hD1 hS1 => ?_)
    have er := zrho_set (ext := ext) (e := .inl (ct 2, n, .inr (.inr (.inr (.inr (va_up f i.toNatClampNeg (some b1))))))) g1
    refine IH _ hz ls _ H1 locs1 _ ⟨hl, by rw [er]; exact hL, by rw [er]; exact hrest, ?_, hP1, hD1, hS1, hnc, hns, zPre_tr hpre (zPre_set g1)⟩
    rw [er]
    refine zHp_set hH ⟨2, rfl, by omega, rfl, by rw [List.length_set]; exact g3, ⟨_, rfl⟩, fun j a9 hj => ?_⟩
    rcases zset_get hj with ⟨rfl, rfl⟩ | ⟨hne, hj⟩
    · show zg _ _ (va_rf (va_up f i.toNatClampNeg (some b1) i.toNatClampNeg))
      have : va_up f i.toNatClampNeg (some b1) i.toNatClampNeg = some b1 := if_pos rfl
      rw [this]
      exact ⟨b1, hb1, rfl⟩
    · show zg _ _ (va_rf (va_up f i.toNatClampNeg (some b1) j))
      have : va_up f i.toNatClampNeg (some b1) j = f j := if_neg hne
      rw [this]
      exact g5 _ _ hj
  · cases hz
theorem z_alen (C : zCx p R s m args meth c prog zst TG TN scr adK adV ext D ct A E rc rs d) (IH : ∀ x, K x = true → zGo p l e R s m args below meth c Q ext D ct (zEm E) rc rs A ws0 x) (hrel : zRel ext D ct (zEm E) rc rs A s.heap ws0 L st h nc ns ls stc H locs ws)
    (k1 : zdec E.2.1 pc .arraylength = true) (hz : zstep zNf zdfl zslen prog (zEm E) rc rs scr cc K .arraylength cv a b k pc L st h nc ns = true) : W p l e R s m args below meth c H locs nc ns Q (F0 m pc ls stc) := by
  have hdg : decode E.2.1 pc = .ok (.arraylength, 1) := of_decide_eq_true k1
  obtain ⟨hl, hL, hst, hH, hP, hD, hS, hnc, hns, hpre⟩ := hrel
  obtain ⟨hx, hb, hml, hown, hts, hini, hK, -, hF, -, -, -, hA, -⟩ := C
  simp only [zstep] at hz
  split at hz
  · next q r =>
    obtain ⟨v0, rest, rfl, ⟨b0, hb0, rfl⟩, hrest⟩ := zL2_cons hst
    split at hz
    · next hq =>
      subst hq
      obtain ⟨-, -, -, -, ⟨b1, xs, f1, f2, f3, f4, f5⟩, -⟩ := hF
      unfold zrho at hb0
      rw [if_neg (Nat.not_lt.mpr (Nat.le_of_ble_eq_true rfl)), f1] at hb0
      cases hb0
      exact va_slen hx hb f4 f3 f2 hS hdg (IH _ hz ls _ H locs ws ⟨hl, hL, ⟨rfl, hrest⟩, hH, hP, hD, hS, hnc, hns, hpre⟩)
    · split at hz
      · next x hx0 =>
        obtain ⟨h2, hz⟩ := z_and hz
        obtain ⟨h3, hz⟩ := z_and hz
        have h3 := z_ble h3
        obtain ⟨x1, x2⟩ := x
        obtain ⟨t, rfl⟩ : ∃ t, x1 = 10 + t := ⟨x1 - 10, by have : 10 ≤ x1 := h3; omega⟩
        obtain ⟨n, f, g1, g2, g3, g4, g5⟩ := z_refarr (t := t) hH hx0 (z_blt h2) hb0
        exact va_alen hx hb hK hP q t g1 (z_tys ct g2) (v := Int32.ofNat x2.length) (by rw [← g3]) hdg (IH _ hz ls _ H locs ws ⟨hl, hL, ⟨rfl, hrest⟩, hH, hP, hD, hS, hnc, hns, hpre⟩)
      · cases hz
  · cases hz
theorem z_acopy (C : zCx p R s m args meth c prog zst TG TN scr adK adV ext D ct A E rc rs d) (hgl : ∀ w ∈ zglob, w ∈ TG) (IH : ∀ x, K x = true → zGo p l e R s m args below meth c Q ext D ct (zEm E) rc rs A ws0 x) (hrel : zRel ext D ct (zEm E) rc rs A s.heap ws0 L st h nc ns ls stc H locs ws) {ix : Nat}
    (hdg : decode E.2.1 pc = .ok (.invokestatic ix, 3)) (k3 : Cond.methodLink E.1.cls ix arraycopyName ∈ TG)
    {n dp sp : Int32} {q1 q0 : Nat} (est : st = .inl (.int n) :: .inl (.int dp) :: .inl (.ref q1) :: .inl (.int sp) :: .inl (.ref q0) :: []) (h1 : ¬ n < 0) (h2 : ¬ dp < 0) (h3 : ¬ sp < 0) {f g : List zV} (hf : h[q0]? = some (10, f)) (hg : h[q1]? = some (10, g)) (hf2 : q0 < 1000000) (hg2 : q1 < 1000000) (hn1 : sp.toNatClampNeg + n.toNatClampNeg ≤ f.length) (hn2 : dp.toNatClampNeg + n.toNatClampNeg ≤ g.length)
    (hz : K (pc + 3, L, [], h.set q1 (10, zcpy f g sp.toNatClampNeg dp.toNatClampNeg n.toNatClampNeg), nc, ns) = true) : W p l e R s m args below meth c H locs nc ns Q (F0 m pc ls stc) := by
  obtain ⟨hl, hL, hst, hH, hP, hD, hS, hnc, hns, hpre⟩ := hrel
  obtain ⟨hx, hb, hml, hown, hts, hini, hK, -, hF, -, -, -, hA, hfr, hlo, -⟩ := C
  rw [est] at hst
  obtain ⟨w1, w2, r1, rfl, e1, e2, hst1⟩ := zL2_2 hst
  obtain ⟨w3, w4, r2, rfl, ⟨b1, hb1, rfl⟩, e4, hst2⟩ := zL2_2 hst1
  obtain ⟨w5, r3, rfl, ⟨b0, hb0, rfl⟩, hst3⟩ := zL2_cons hst2
  have e5 := zL2_nil hst3
  subst e5
  cases e1
  cases e2
  cases e4
  obtain ⟨n0, f0, g1, g2, g3, ⟨f0, rfl⟩, g5⟩ := z_refarr (t := 0) hH hf hf2 hb0
  obtain ⟨n1, f1, j1, j2, j3, ⟨f1, rfl⟩, j5⟩ := z_refarr (t := 0) hH hg hg2 hb1
  refine va_copyi hx hb (by rw [hml]; exact hl.1.symm) hown (hts _ k3) (hts _ (hgl _ (by simp [zglob]))) (hts _ (hgl _ (by simp [zglob]))) (hts _ (hgl _ (by simp [zglob]))) hK hP hD hS q0 q1 0 0 g1 j1 rfl rfl rfl h3 h2 h1 (by rw [← g3]; exact hn1) (by rw [← j3]; exact hn2) (fun i _ => rfl) (by omega) ?_ hdg (fun H1 locs1 hP1 hD1 hS1 => ?_)
  · have : nativeFrameWords "java/lang/System" "arraycopy" 5 = 7 := by decide +kernel
    rw [this]
    show 0 + 18 ≤ R.locals
    omega
  · have er := zrho_set (ext := ext) (e := .inl (ct 0, n1, .inl (va_cpy f0 f1 sp.toNatClampNeg dp.toNatClampNeg n.toNatClampNeg))) j1
    refine IH _ hz ls _ H1 locs1 _ ⟨hl, by rw [er]; exact hL, trivial, ?_, hP1, hD1, hS1, hnc, hns, zPre_tr hpre (zPre_set j1)⟩
    rw [er]
    refine zHp_set hH ⟨0, rfl, by omega, rfl, by show (zcpy _ _ _ _ _).length = _; rw [zcpy_len hn1 hn2]; exact j3, ⟨_, rfl⟩, fun j a9 hj => ?_⟩
    obtain ⟨c1, c2⟩ := zcpy_get hn1 hn2 hj
    by_cases hjj : dp.toNatClampNeg ≤ j ∧ j < dp.toNatClampNeg + n.toNatClampNeg
    · show zg _ _ (.int (va_cpy f0 f1 sp.toNatClampNeg dp.toNatClampNeg n.toNatClampNeg j))
      rw [pk_cpy_in hjj.1 hjj.2]
      exact g5 _ _ (c1 hjj)
    · show zg _ _ (.int (va_cpy f0 f1 sp.toNatClampNeg dp.toNatClampNeg n.toNatClampNeg j))
      rw [pk_cpy_out (by omega)]
      exact j5 _ _ (c2 hjj)
theorem z_acopyl (C : zCx p R s m args meth c prog zst TG TN scr adK adV ext D ct A E rc rs d) (hgl : ∀ w ∈ zglob, w ∈ TG) (IH : ∀ x, K x = true → zGo p l e R s m args below meth c Q ext D ct (zEm E) rc rs A ws0 x) (hrel : zRel ext D ct (zEm E) rc rs A s.heap ws0 L st h nc ns ls stc H locs ws) {ix : Nat}
    (hdg : decode E.2.1 pc = .ok (.invokestatic ix, 3)) (k3 : Cond.methodLink E.1.cls ix arraycopyName ∈ TG)
    {n dp sp : Int32} {q1 q0 : Nat} (est : st = .inl (.int n) :: .inl (.int dp) :: .inl (.ref q1) :: .inl (.int sp) :: .inl (.ref q0) :: []) (h1 : ¬ n < 0) (h2 : ¬ dp < 0) (h3 : ¬ sp < 0) {f g : List zV} (hf : h[q0]? = some (11, f)) (hg : h[q1]? = some (11, g)) (hf2 : q0 < 1000000) (hg2 : q1 < 1000000) (hn1 : sp.toNatClampNeg + n.toNatClampNeg ≤ f.length) (hn2 : dp.toNatClampNeg + n.toNatClampNeg ≤ g.length)
    (hz : K (pc + 3, L, [], h.set q1 (11, zcpy f g sp.toNatClampNeg dp.toNatClampNeg n.toNatClampNeg), nc, ns) = true) : W p l e R s m args below meth c H locs nc ns Q (F0 m pc ls stc) := by
  obtain ⟨hl, hL, hst, hH, hP, hD, hS, hnc, hns, hpre⟩ := hrel
  obtain ⟨hx, hb, hml, hown, hts, hini, hK, -, hF, -, -, -, hA, hfr, hlo, -⟩ := C
  rw [est] at hst
  obtain ⟨w1, w2, r1, rfl, e1, e2, hst1⟩ := zL2_2 hst
  obtain ⟨w3, w4, r2, rfl, ⟨b1, hb1, rfl⟩, e4, hst2⟩ := zL2_2 hst1
  obtain ⟨w5, r3, rfl, ⟨b0, hb0, rfl⟩, hst3⟩ := zL2_cons hst2
  have e5 := zL2_nil hst3
  subst e5
  cases e1
  cases e2
  cases e4
  obtain ⟨n0, f0, g1, g2, g3, ⟨f0, rfl⟩, g5⟩ := z_refarr (t := 1) hH hf hf2 hb0
  obtain ⟨n1, f1, j1, j2, j3, ⟨f1, rfl⟩, j5⟩ := z_refarr (t := 1) hH hg hg2 hb1
  refine va_copyl hx hb (by rw [hml]; exact hl.1.symm) hown (hts _ k3) (hts _ (hgl _ (by simp [zglob]))) (hts _ (hgl _ (by simp [zglob]))) (hts _ (hgl _ (by simp [zglob]))) hK hP hD hS q0 q1 1 1 g1 j1 rfl rfl rfl h3 h2 h1 (by rw [← g3]; exact hn1) (by rw [← j3]; exact hn2) (fun i _ => rfl) (by omega) ?_ hdg (fun H1 locs1 hP1 hD1 hS1 => ?_)
  · have : nativeFrameWords "java/lang/System" "arraycopy" 5 = 7 := by decide +kernel
    rw [this]
    show 0 + 18 ≤ R.locals
    omega
  · have er := zrho_set (ext := ext) (e := .inl (ct 1, n1, .inr (.inl (va_cpy f0 f1 sp.toNatClampNeg dp.toNatClampNeg n.toNatClampNeg)))) j1
    refine IH _ hz ls _ H1 locs1 _ ⟨hl, by rw [er]; exact hL, trivial, ?_, hP1, hD1, hS1, hnc, hns, zPre_tr hpre (zPre_set j1)⟩
    rw [er]
    refine zHp_set hH ⟨1, rfl, by omega, rfl, by show (zcpy _ _ _ _ _).length = _; rw [zcpy_len hn1 hn2]; exact j3, ⟨_, rfl⟩, fun j a9 hj => ?_⟩
    obtain ⟨c1, c2⟩ := zcpy_get hn1 hn2 hj
    by_cases hjj : dp.toNatClampNeg ≤ j ∧ j < dp.toNatClampNeg + n.toNatClampNeg
    · show zg _ _ (.long (va_cpy f0 f1 sp.toNatClampNeg dp.toNatClampNeg n.toNatClampNeg j))
      rw [pk_cpy_in hjj.1 hjj.2]
      exact g5 _ _ (c1 hjj)
    · show zg _ _ (.long (va_cpy f0 f1 sp.toNatClampNeg dp.toNatClampNeg n.toNatClampNeg j))
      rw [pk_cpy_out (by omega)]
      exact j5 _ _ (c2 hjj)
theorem z_zld (C : zCx p R s m args meth c prog zst TG TN scr adK adV ext D ct A E rc rs d) (IH : ∀ x, K x = true → zGo p l e R s m args below meth c Q ext D ct (zEm E) rc rs A ws0 x) (hrel : zRel ext D ct (zEm E) rc rs A s.heap ws0 L st h nc ns ls stc H locs ws)
    (k1 : zdec E.2.1 pc .baload = true) (hz : zstep zNf zdfl zslen prog (zEm E) rc rs scr cc K .baload cv a b k pc L st h nc ns = true) : W p l e R s m args below meth c H locs nc ns Q (F0 m pc ls stc) := by
  have hdg : decode E.2.1 pc = .ok (.baload, 1) := of_decide_eq_true k1
  obtain ⟨hl, hL, hst, hH, hP, hD, hS, hnc, hns, hpre⟩ := hrel
  obtain ⟨hx, hb, hml, hown, hts, hini, hK, -, hF, -, -, -, hA, -⟩ := C
  simp only [zstep] at hz
  split at hz
  · next i q r =>
    obtain ⟨w, v0, rest, rfl, h0, ⟨b0, hb0, rfl⟩, hrest⟩ := zL2_2 hst
    cases h0
    obtain ⟨vs, h1, h2, hz⟩ := zrow_sp hz
    obtain ⟨v, hv, hin, hz⟩ := zel_sp hz
    obtain ⟨n, f, g1, g2, g3, ⟨f, rfl⟩, g5⟩ := z_refarr (t := 5) hH h1 h2 hb0
    exact va_zald hx hb hK hP q 5 g1 rfl (by rw [← g3]; exact hin) hdg (IH _ hz ls _ H locs ws ⟨hl, hL, ⟨g5 _ _ hv, hrest⟩, hH, hP, hD, hS, hnc, hns, hpre⟩)
  · cases hz
theorem z_nar1 (x : Int32) : vp_nar .boolean x = x &&& 1 := by
  unfold vp_nar narrow
  rfl
theorem z_zst (C : zCx p R s m args meth c prog zst TG TN scr adK adV ext D ct A E rc rs d) (IH : ∀ x, K x = true → zGo p l e R s m args below meth c Q ext D ct (zEm E) rc rs A ws0 x) (hrel : zRel ext D ct (zEm E) rc rs A s.heap ws0 L st h nc ns ls stc H locs ws)
    (k1 : zdec E.2.1 pc .bastore = true) (hz : zstep zNf zdfl zslen prog (zEm E) rc rs scr cc K .bastore cv a b k pc L st h nc ns = true) : W p l e R s m args below meth c H locs nc ns Q (F0 m pc ls stc) := by
  have hdg : decode E.2.1 pc = .ok (.bastore, 1) := of_decide_eq_true k1
  obtain ⟨hl, hL, hst, hH, hP, hD, hS, hnc, hns, hpre⟩ := hrel
  obtain ⟨hx, hb, hml, hown, hts, hini, hK, -, hF, -, -, -, hA, -⟩ := C
  simp only [zstep] at hz
  split at hz
  · next x i q r =>
    obtain ⟨w, v0, rest0, rfl, hg, h0, hrest0⟩ := zL2_2 hst
    cases hg
    cases h0
    obtain ⟨v1, rest, rfl, ⟨b0, hb0, rfl⟩, hrest⟩ := zL2_cons hrest0
    obtain ⟨vs, h1, h2, hz⟩ := zrow_sp hz
    obtain ⟨h4, hz⟩ := z_and hz
    obtain ⟨n, f, g1, g2, g3, ⟨f, rfl⟩, g5⟩ := z_refarr (t := 5) hH h1 h2 hb0
    refine va_zast hx hb hK hP hD hS q 5 g1 rfl (by rw [← g3]; exact zix_sp h4) hdg (fun H1 locs1 hP1 hD1 hS1 => ?_)
    have er := zrho_set (ext := ext) (e := .inl (ct 5, n, .inl (upd f i.toNatClampNeg (vp_nar .boolean x)))) g1
    refine IH _ hz ls _ H1 locs1 _ ⟨hl, by rw [er]; exact hL, by rw [er]; exact hrest, ?_, hP1, hD1, hS1, hnc, hns, zPre_tr hpre (zPre_set g1)⟩
    rw [er]
    refine zHp_set hH ⟨5, rfl, by omega, rfl, by rw [List.length_set]; exact g3, ⟨_, rfl⟩, fun j a9 hj => ?_⟩
    rcases zset_get hj with ⟨rfl, rfl⟩ | ⟨hne, hj⟩
    · show zg _ _ (.int (upd f i.toNatClampNeg (vp_nar .boolean x) i.toNatClampNeg))
      rw [pk_us, z_nar1]
      exact rfl
    · show zg _ _ (.int (upd f i.toNatClampNeg (vp_nar .boolean x) j))
      rw [pk_un hne]
      exact g5 _ _ hj
  · cases hz
theorem z_gst (C : zCx p R s m args meth c prog zst TG TN scr adK adV ext D ct A E rc rs d) (IH : ∀ x, K x = true → zGo p l e R s m args below meth c Q ext D ct (zEm E) rc rs A ws0 x) (hrel : zRel ext D ct (zEm E) rc rs A s.heap ws0 L st h nc ns ls stc H locs ws) {ix : Nat}
    (k1 : zdec E.2.1 pc (.getstatic ix) = true) (k3 : ∀ w ∈ zwords prog E.1.cls (.getstatic ix) cv a b, w ∈ TG) (hz : zstep zNf zdfl zslen prog (zEm E) rc rs scr cc K (.getstatic ix) cv a b k pc L st h nc ns = true) : W p l e R s m args below meth c H locs nc ns Q (F0 m pc ls stc) := by
  have hdg : decode E.2.1 pc = .ok (.getstatic ix, 3) := of_decide_eq_true k1
  obtain ⟨hl, hL, hst, hH, hP, hD, hS, hnc, hns, hpre⟩ := hrel
  obtain ⟨hx, hb, hml, hown, hts, hini, hK, -, hF, -, -, -, hA, -⟩ := C
  simp only [zstep] at hz
  obtain ⟨-, -, -, -, -, ⟨b1, xs, f1, f4, f6, f5⟩, -⟩ := hF
  refine va_gets hx hb (ref := "EndsInFive") f6 hS hown (hts _ (k3 _ List.mem_cons_self)) (fun x hx => hx) hdg (IH _ hz ls _ H locs ws ⟨hl, hL, ⟨⟨b1, ?_, rfl⟩, hst⟩, hH, hP, hD, hS, hnc, hns, hpre⟩)
  unfold zrho
  rw [if_neg (Nat.not_lt.mpr (Nat.le_of_ble_eq_true rfl))]
  exact f1
end
