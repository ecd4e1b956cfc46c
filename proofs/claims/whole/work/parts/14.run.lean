theorem z_sl : ∀ (vs : List Value), (lg_sl vs).length = (vs.map fun v => v.category).sum
  | [] => rfl
  | v :: vs => by
    have h := z_sl vs
    cases v <;> simp_all [lg_sl, Value.category] <;> omega
section
variable {p : Program} {l : Launch} {e : Env} {R : Room} {s : State} {m : MethodId} {args : Array Value} {below : List Frame} {meth : Method} {c : Code} {Q : State → Prop}
variable {prog : Nat → Option zE} {zst : zSt} {TG TN : List Cond} {scr : List zV} {adK adV : Nat → Nat} {ext : Nat → Option Nat} {D : va_G} {ct : Nat → ClassId} {A : Nat → Prop} {E : zE} {rc rs d : Nat} {ws0 : va_W} {cc : zK}
theorem zrun_sound (C : zCx p R s m args meth c prog zst TG TN scr adK adV ext D ct A E rc rs d) (hG : zGood TG) (hTN : zTNok TN) (hOk : zOkP prog zst TG TN) (HL : zSL l zst TG TN scr adK adV ext D ct d) (hLw : ∀ w ∈ zmwords zESL ++ zmwords zESC, w ∈ TG) (hgl : ∀ w ∈ zglob, w ∈ TG)
    (HM : ∀ j vs h post, cc j vs h post = true → zMet l prog zst TG TN scr adK adV ext D ct d j vs h post) {fin : Nat → zS → Bool} {post : Option zV → zH → Bool}
    (hfin : ∀ x : zS, fin x.1 x = true → zGo p l e R s m args below meth c Q ext D ct (zEm E) rc rs A ws0 x)
    (hret : ∀ (x : zS) (i : zI), zft (zEd E) x.1 = some i → zisRet i.1 = true → zret E.2.2.2.1 i.1 x.2.2.1 x.2.2.2.1 post = true → zGo p l e R s m args below meth c Q ext D ct (zEm E) rc rs A ws0 x) :
    ∀ (n : Nat) (x : zS), zrun zNf zdfl zslen prog E scr rc rs cc fin post n x = true → zGo p l e R s m args below meth c Q ext D ct (zEm E) rc rs A ws0 x := by
  intro n
  induction n with
  | zero =>
    intro x hx
    exact absurd hx Bool.false_ne_true
  | succ n ih =>
    intro x hx
    have hx : (if fin x.1 x then true else match zft (zEd E) x.1 with
      | some i => if zisRet i.1 then zret E.2.2.2.1 i.1 x.2.2.1 x.2.2.2.1 post else zstep zNf zdfl zslen prog (zEm E) rc rs scr cc (zrun zNf zdfl zslen prog E scr rc rs cc fin post n) i.1 i.2.1 i.2.2.1 i.2.2.2.1 i.2.2.2.2.1 x.1 x.2.1 x.2.2.1 x.2.2.2.1 x.2.2.2.2.1 x.2.2.2.2.2
      | none => false) = true := hx
    by_cases hf : fin x.1 x = true
    · exact hfin x hf
    · rw [if_neg hf] at hx
      split at hx
      · next i hi =>
        by_cases hr : zisRet i.1 = true
        · rw [if_pos hr] at hx
          exact hret x i hi hr hx
        · rw [if_neg hr] at hx
          have hC := C.2.2.2.2.2.2.2.2.2.2.2.2.2.2.2.2.2.1
          obtain ⟨k1, k2, k3, k4⟩ := hC x.1 i hi
          intro ls stc H locs ws hrel
          exact zstep_sound C hG hTN hOk HL hLw hgl HM ih hrel k1 k2 k3 k4 hx
      · cases hx
end
theorem zret_sp {ret : Option FieldType} {i : Instr} {st : List zV} {h : zH} {post : Option zV → zH → Bool} (hr : zret ret i st h post = true) :
    (∃ v, i = .ireturn ∧ st = [v] ∧ ((ret = some .int ∧ zisI v = true) ∨ (ret = some .boolean ∧ zfit 3 v = true)) ∧ post (some v) h = true) ∨ (∃ v, i = .lreturn ∧ st = [v] ∧ ret = some .long ∧ zisL v = true ∧ post (some v) h = true) ∨ (∃ v n, i = .areturn ∧ st = [v] ∧ ret = some (.object n) ∧ zisR v = true ∧ post (some v) h = true) ∨ (i = .return_ ∧ st = [] ∧ ret = none ∧ post none h = true) := by
  unfold zret at hr
  split at hr
  · next v =>
    split at hr
    · obtain ⟨h1, h2⟩ := z_and hr
      exact Or.inl ⟨v, rfl, rfl, Or.inl ⟨rfl, h1⟩, h2⟩
    · obtain ⟨h1, h2⟩ := z_and hr
      exact Or.inl ⟨v, rfl, rfl, Or.inr ⟨rfl, h1⟩, h2⟩
    · cases hr
  · next v =>
    obtain ⟨h0, hr⟩ := z_and hr
    obtain ⟨h1, h2⟩ := z_and hr
    exact Or.inr (Or.inl ⟨v, rfl, rfl, of_decide_eq_true h0, h1, h2⟩)
  · next v =>
    split at hr
    · next n =>
      obtain ⟨h1, h2⟩ := z_and hr
      exact Or.inr (Or.inr (Or.inl ⟨v, n, rfl, rfl, rfl, h1, h2⟩))
    · cases hr
  · obtain ⟨h0, h2⟩ := z_and hr
    exact Or.inr (Or.inr (Or.inr ⟨rfl, rfl, of_decide_eq_true h0, h2⟩))
  · cases hr
theorem z_metG {l : Launch} {prog : Nat → Option zE} {zst : zSt} {TG TN : List Cond} {scr : List zV} {adK adV : Nat → Nat} {ext : Nat → Option Nat} {D : va_G} {ct : Nat → ClassId} {d j : Nat} {vs : List zV} {h : zH} {post : Option zV → zH → Bool}
    (hOk : zOkP prog zst TG TN) (huw : ∀ w ∈ zuws, w ∈ TG)
    {E : zE} (hE : prog j = some E) (hsum : zsum vs ≤ zEm E)
    (HB : ∀ {p : Program} {e : Env} {s : State} {m : MethodId} {args : Array Value} {below : List Frame} {meth : Method} {c : Code} {Q : State → Prop} {A : Nat → Prop} {ws0 : va_W}, zCx p (zrm E (d + 1)) s m args meth c prog zst TG TN scr adK adV ext D ct A E (zEc E) (zEs E) d →
      (∀ (x : zS) (i : zI), zft (zEd E) x.1 = some i → zisRet i.1 = true → zret E.2.2.2.1 i.1 x.2.2.1 x.2.2.2.1 post = true → zGo p l e (zrm E (d + 1)) s m args below meth c Q ext D ct (zEm E) (zEc E) (zEs E) A ws0 x) →
      zGo p l e (zrm E (d + 1)) s m args below meth c Q ext D ct (zEm E) (zEc E) (zEs E) A ws0 (0, zarg 0 vs, [], h, 0, 0)) {ws : va_W} {sz : Nat} {argv : List Value} (hv : zL2 (zrho ws ext) vs argv) (hH : zHp (zrho ws ext) ct h ws) :
    Met l E.1 (zWS TG E) (zrm E (d + 1)) (va_Pc argv (zPcB zst TN scr adK adV ext D ct ws sz)) (zQr ext D ct ws sz post) (zEc E) (zEs E) (va_A ws sz) := by
  obtain ⟨hC, hms, hmw⟩ := hOk j E hE
  refine Met.ofW (cc := E.2.1) (maxL := zEm E) (ret := E.2.2.2.1) (z_mside hms).2.2.2.2.1 rfl ?_
  intro p e s m args below meth c s₁ B hml hpv
  obtain ⟨rfl, hsz, hP, hK, hD0, hN, hF, h1, h2, h3⟩ := hpv
  subst hsz
  have hts := atoms_spec (ws := zWS TG E) B.pre
  have hlocks := B.notSynchronized
  have C : zCx p (zrm E (d + 1)) s m argv.toArray meth c prog zst TG TN scr adK adV ext D ct (va_A ws s.heap.size) E (zEc E) (zEs E) d := by
    refine ⟨B.exec, B.bytes, hml, findClass_of_methodNamed B.named, fun w hw => hts w (List.mem_cons_of_mem _ hw), fun hi => ?_, hK, hN, hF, h1, h2, h3, fun q hq => Or.inr hq, Nat.le_refl _, Nat.le_refl _, Nat.le_refl _, Nat.le_refl _, hC, huw⟩
    rw [← hi]
    exact (name_of_methodNamed B.named B.method).1
  have hlen : (lg_sl argv).length ≤ zEm E := by
    rw [z_sl, zL2_sum hv]
    exact hsum
  have hl := lv_entry argv (n := zEm E) hlen
  rw [lg_entry_eq]
  generalize (lg_sl argv ++ List.replicate (zEm E - (lg_sl argv).length) Slot.unset).toArray = ls at hl ⊢
  have key : zGo p l e (zrm E (d + 1)) s m argv.toArray below meth c (MQ below (zQr ext D ct ws s.heap.size post) argv.toArray s (zEc E) (zEs E) (va_A ws s.heap.size)) ext D ct (zEm E) (zEc E) (zEs E) (va_A ws s.heap.size) ws (0, zarg 0 vs, [], h, 0, 0) := by
    refine HB C (fun x i hi hr hx => ?_)
    intro ls stc H locs ws' hrel
    obtain ⟨hl', hL', hst, hH', hP', hD', hS', hnc, hns, hpre⟩ := hrel
    have k1 := (hC x.1 i hi).1
    have hq : ∀ (r : Option zV) (v : Option Value), post r x.2.2.2.1 = true → zgo (zrho ws' ext) r v → ∀ t : State, t.heap = H → s.WarmedH t.vm → zQr ext D ct ws s.heap.size post argv.toArray s (.returned v) t := fun r v hp hg t ht _ =>
      ⟨⟨r, _, v, ws', hp, rfl, hg, hH', by rw [ht]; exact hP', hD', hpre⟩, by rw [ht]; exact hS'.1, fun q h8 h9 => by rw [ht]; exact hS'.2.1 q h8 h9⟩
    refine W.widen hnc hns ?_
    rcases zret_sp hx with ⟨v, hi1, hst1, hty, hp⟩ | ⟨v, hi1, hst1, hty, h9, hp⟩ | ⟨v, n9, hi1, hst1, hty, h9, hp⟩ | ⟨hi1, hst1, hty, hp⟩
    · rw [hi1] at k1
      rw [hst1] at hst
      obtain ⟨w, r', rfl, hg, hr'⟩ := zL2_cons hst
      have e0 := zL2_nil hr'
      subst e0
      rcases hty with ⟨hty, h9⟩ | ⟨hty, h9⟩
      · obtain ⟨xv, rfl, -⟩ := zg_I hg h9
        exact W.iret B.exec B.bytes (by rw [← hty]; exact B.returns) (hq (some v) (some (.int xv)) hp hg) hS'.2.2 (of_decide_eq_true k1)
      · obtain ⟨xv, rfl, hxv⟩ := zfit3 h9
        cases hg
        refine W.zret (ty := .boolean) B.exec B.bytes (by rw [← hty]; exact B.returns) ?_ (hq (some (.inl (.int xv))) (some (.int xv)) hp rfl) hS'.2.2 (of_decide_eq_true k1)
        rcases hxv with rfl | rfl <;> decide
    · rw [hi1] at k1
      rw [hst1] at hst
      obtain ⟨w, r', rfl, hg, hr'⟩ := zL2_cons hst
      have e0 := zL2_nil hr'
      subst e0
      obtain ⟨xv, rfl, -⟩ := zg_L hg h9
      exact W.lret B.exec B.bytes (by rw [← hty]; exact B.returns) (hq (some v) (some (.long xv)) hp hg) hS'.2.2 (of_decide_eq_true k1)
    · rw [hi1] at k1
      rw [hst1] at hst
      obtain ⟨w, r', rfl, hg, hr'⟩ := zL2_cons hst
      have e0 := zL2_nil hr'
      subst e0
      refine W.aret (rt := .object n9) B.exec B.bytes (by rw [← hty]; exact B.returns) (Or.inl ⟨n9, rfl⟩) ?_ (hq (some v) (some w) hp hg) hS'.2.2 (of_decide_eq_true k1)
      rcases zg_R hg h9 with ⟨-, rfl⟩ | ⟨_, a9, -, -, rfl⟩
      · exact Or.inl rfl
      · exact Or.inr ⟨a9, rfl⟩
    · rw [hi1] at k1
      rw [hst1] at hst
      have e0 := zL2_nil hst
      subst e0
      exact W.vret B.exec B.bytes (by rw [← hty]; exact B.returns) (hq none none hp trivial) hS'.2.2 (of_decide_eq_true k1)
  exact key ls [] s.heap [] ws ⟨lv_sub hl [] rfl, zLo_arg (nL := zEm E) 0 hv hl.2.2, trivial, hH, hP, hD0.self, va_S.rf, Nat.zero_le _, Nat.zero_le _, zPre_rf ws⟩
theorem z_met {l : Launch} {prog : Nat → Option zE} {zst : zSt} {TG TN : List Cond} {scr : List zV} {adK adV : Nat → Nat} {ext : Nat → Option Nat} {D : va_G} {ct : Nat → ClassId} {d j : Nat} {cc : zK} {vs : List zV} {h : zH} {post : Option zV → zH → Bool}
    (hG : zGood TG) (hTN : zTNok TN) (hOk : zOkP prog zst TG TN) (huw : ∀ w ∈ zuws, w ∈ TG) (HL : zSL l zst TG TN scr adK adV ext D ct d) (hLw : ∀ w ∈ zmwords zESL ++ zmwords zESC, w ∈ TG) (hgl : ∀ w ∈ zglob, w ∈ TG)
    (HM : ∀ j vs h post, cc j vs h post = true → zMet l prog zst TG TN scr adK adV ext D ct d j vs h post) {E : zE} (hE : prog j = some E) (hsum : zsum vs ≤ zEm E) {n : Nat}
    (hz : zrun zNf zdfl zslen prog E scr (zEc E) (zEs E) cc (fun _ _ => false) post n (0, zarg 0 vs, [], h, 0, 0) = true) {ws : va_W} {sz : Nat} {argv : List Value} (hv : zL2 (zrho ws ext) vs argv) (hH : zHp (zrho ws ext) ct h ws) :
    Met l E.1 (zWS TG E) (zrm E (d + 1)) (va_Pc argv (zPcB zst TN scr adK adV ext D ct ws sz)) (zQr ext D ct ws sz post) (zEc E) (zEs E) (va_A ws sz) := by
  exact z_metG hOk huw hE hsum (fun C hr => zrun_sound C hG hTN hOk HL hLw hgl HM (fun x hx => absurd hx Bool.false_ne_true) hr n _ hz) hv hH
theorem zdeep_sound {l : Launch} {prog : Nat → Option zE} {zst : zSt} {TG TN : List Cond} {scr : List zV} {adK adV : Nat → Nat} {ext : Nat → Option Nat} {D : va_G} {ct : Nat → ClassId}
    (hG : zGood TG) (hTN : zTNok TN) (hOk : zOkP prog zst TG TN) (huw : ∀ w ∈ zuws, w ∈ TG) (HL : ∀ d, zSL l zst TG TN scr adK adV ext D ct d) (hLw : ∀ w ∈ zmwords zESL ++ zmwords zESC, w ∈ TG) (hgl : ∀ w ∈ zglob, w ∈ TG) :
    ∀ (d j : Nat) (vs : List zV) (h : zH) (post : Option zV → zH → Bool), zdeep zNf zdfl zslen prog scr d j vs h post = true → zMet l prog zst TG TN scr adK adV ext D ct d j vs h post := by
  intro d
  induction d with
  | zero =>
    intro j vs h post hz
    exact absurd hz Bool.false_ne_true
  | succ d ih =>
    intro j vs h post hz E hE ws sz argv hv hH
    have hz : (match prog j with
      | some E => Nat.ble (zsum vs) (zEm E) && zrun zNf zdfl zslen prog E scr (zEc E) (zEs E) (zdeep zNf zdfl zslen prog scr d) (fun _ _ => false) post 20000 (0, zarg 0 vs, [], h, 0, 0)
      | none => false) = true := hz
    rw [hE] at hz
    obtain ⟨h1, h2⟩ := z_and hz
    exact z_met hG hTN hOk huw (HL d) hLw hgl ih hE (z_ble h1) h2 hv hH
