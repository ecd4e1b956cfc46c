def tinit : Nat → List tA → tL
  | _, [] => []
  | i, a :: as => (i, (a.1, a.2.1, a.2.2.1, (if a.1 ≤ 1 then 0 else a.2.2.2.1), [])) :: tinit (if a.1 = 1 then i + 2 else i + 1) as
theorem tinit_ok {T : List Nat} : ∀ (i : Nat) {as : List tA} {vs : List zV}, okAs T as vs → ∀ p ∈ tinit i as, i ≤ p.1 ∧ ∃ v : zV, zget (zarg i vs) p.1 = some v ∧ okA T p.2 v
  | _, [], [], _, p, hp => by cases hp
  | i, a :: as, v :: vs, h, p, hp => by
    rcases List.mem_cons.mp hp with rfl | hp
    · exact ⟨Nat.le_refl _, v, zget_cons_eq, okA_norm h.1⟩
    · have e : (if zcat v = 2 then i + 2 else i + 1) = (if a.1 = 1 then i + 2 else i + 1) := by
        rw [okA_cat h.1]
        unfold tcat
        by_cases q : a.1 = 1
        · rw [if_pos q, if_pos q, if_pos rfl]
        · rw [if_neg q, if_neg q, if_neg (by decide)]
      obtain ⟨h1, w, h2, h3⟩ := tinit_ok (if a.1 = 1 then i + 2 else i + 1) h.2 p hp
      have h4 : i + 1 ≤ (if a.1 = 1 then i + 2 else i + 1) := by split <;> omega
      refine ⟨by omega, w, ?_, h3⟩
      show zget ((i, v) :: zarg (if zcat v = 2 then i + 2 else i + 1) vs) p.1 = some w
      rw [zget_cons_ne (by omega), e]
      exact h2
  | _, [], _ :: _, h, _, _ => h.elim
  | _, _ :: _, [], h, _, _ => h.elim
theorem okAs_sum {T : List Nat} : ∀ {l : List tA} {vs : List zV}, okAs T l vs → zsum vs = tsum l
  | [], [], _ => rfl
  | _ :: _, _ :: _, h => by
    simp only [zsum, tsum]
    rw [okA_cat h.1, okAs_sum h.2]
  | [], _ :: _, h => h.elim
  | _ :: _, [], h => h.elim
/-- the arguments that conditions speak of: ints, each at its own place -/
def tfxok (as : List tA) (fx : List Nat) : Bool := as.all (fun a => !(tlong a)) && fx.all (fun k => match as[k]? with
  | some a => tint a
  | none => false)
theorem zarg_get : ∀ (i : Nat) {vs : List zV} (k : Nat) {v : zV}, (∀ w ∈ vs, zcat w ≠ 2) → vs[k]? = some v → zget (zarg i vs) (i + k) = some v
  | _, [], _, _, _, h => by simp at h
  | i, w :: vs, 0, v, _, h => by
    simp only [List.getElem?_cons_zero, Option.some.injEq] at h
    subst h
    exact zget_cons_eq
  | i, w :: vs, k + 1, v, hc, h => by
    simp only [List.getElem?_cons_succ] at h
    show zget ((i, w) :: zarg (if zcat w = 2 then i + 2 else i + 1) vs) (i + (k + 1)) = some v
    rw [zget_cons_ne (by omega), if_neg (hc w List.mem_cons_self), show i + (k + 1) = i + 1 + k by omega]
    exact zarg_get (i + 1) k (fun u hu => hc u (List.mem_cons_of_mem _ hu)) h
theorem tfx_ok {T : List Nat} {as : List tA} {vs : List zV} {fx : List Nat} (h : tfxok as fx = true) (hv : okAs T as vs) : ∀ k ∈ fx, ∃ x : Int32, zget (zarg 0 vs) k = some (.inl (.int x)) ∧ vs[k]? = some (.inl (.int x)) := by
  obtain ⟨h1, h2⟩ := z_and h
  have hc : ∀ (l : List tA) (us : List zV), okAs T l us → (∀ a ∈ l, (!(tlong a)) = true) → ∀ w ∈ us, zcat w ≠ 2 := by
    intro l
    induction l with
    | nil =>
      intro us hus _ w hw
      cases us with
      | nil => cases hw
      | cons _ _ => exact hus.elim
    | cons a l ih =>
      intro us hus hl w hw
      cases us with
      | nil => cases hw
      | cons u us =>
        rcases List.mem_cons.mp hw with rfl | hw
        · have := ncat (hl a List.mem_cons_self) hus.1
          have := Nat.eq_of_beq_eq_true this
          omega
        · exact ih us hus.2 (fun b hb => hl b (List.mem_cons_of_mem _ hb)) w hw
  intro k hk
  have h3 := List.all_eq_true.mp h2 k hk
  split at h3
  · next a ha =>
    obtain ⟨v, g1, g2⟩ := okAs_get k hv ha
    obtain ⟨x, rfl, -⟩ := tint_sp h3 g2
    have := zarg_get 0 k (hc as vs hv (fun a ha => List.all_eq_true.mp h1 a ha)) g1
    rw [Nat.zero_add] at this
    exact ⟨x, this, g1⟩
  · cases h3
section
variable {ty : Nat → tTy} {tB : Nat} {prog : Nat → Option zE} {sm : Nat → List tE} {hts : Nat → Nat} {fx : List Nat} {D0 N0 : Nat} {scr : List zV} {cc : zK} {Φ : List Nat → zH → Prop} {G : zS → Prop} {vs : List zV} {T0 : List Nat} {E : zE} {e : tE} {post : Option zV → zH → Bool}
theorem tone_sound (HW : zWalk prog E scr (zEc E) (zEs E) cc post G) (hp : ∀ (r : Option zV) (T' : List Nat) (h' : zH), tExt T0 T' → hOK ty T' h' → Φ T' h' → h'.length ≤ N0 + zEc E → tRes T' vs e r → post r h' = true) (hfx : ∀ k ∈ fx, ∃ x : Int32, zget (zarg 0 vs) k = some (.inl (.int x)) ∧ vs[k]? = some (.inl (.int x))) (hN : N0 + zEc E ≤ 1000000) (hst : tStab ty tB Φ) (hsm : ∀ (j : Nat) (E : zE) (e : tE), prog j = some E → e ∈ sm j → hts j ≤ D0 → tCon ty Φ E cc j e) {K : tK}
    (KG : ∀ (T : List Nat) (pc : Nat) (aL : tL) (st : List tA) (nc ns : Nat) (x : zS), x.1 = pc → K pc aL st nc ns = true → tSt ty Φ fx (zarg 0 vs) N0 (zEc E) T0 T aL st nc ns x → G x) {T : List Nat} {pc : Nat} {aL : tL} {st : List tA} {nc ns : Nat} {x : zS} (hx : x.1 = pc)
    (ht : tone ty tB prog sm hts fx D0 E e K pc aL st nc ns = true) (hS : tSt ty Φ fx (zarg 0 vs) N0 (zEc E) T0 T aL st nc ns x) : G x := by
  obtain ⟨xpc, L, stk, h, xnc, xns⟩ := x
  have hx : xpc = pc := hx
  subst hx
  have e1 : xnc = nc := hS.2.2.2.2.2.1
  have e2 : xns = ns := hS.2.2.2.2.2.2.1
  subst e1
  subst e2
  unfold tone at ht
  split at ht
  · next i hi =>
    refine HW _ i (fun y => zB (G y)) (fun y hy => zB_iff.mp hy) hi ?_
    unfold zS1
    by_cases hr : zisRet i.1 = true
    · rw [if_pos hr] at ht ⊢
      show zret E.2.2.2.1 i.1 stk h post = true
      have hlen : h.length ≤ N0 + zEc E := by
        have : h.length ≤ N0 + xnc := hS.2.2.2.2.1
        have h9 : xnc ≤ zEc E := hS.2.2.2.2.2.2.2.2.2
        omega
      have fin : ∀ r : Option zV, tRes T vs e r → post r h = true := fun r hr => hp r T h hS.2.2.2.2.2.2.2.2.1 hS.2.2.1 hS.2.2.2.1 hlen hr
      unfold tret at ht
      split at ht
      · next a he =>
        obtain ⟨v, vs1, est, g1, g2, g3⟩ := okSt_cons hS.2.1
        have est : stk = v :: vs1 := est
        have e5 := okSt_nil g3
        subst e5
        subst est
        obtain ⟨h0, ht⟩ := z_and ht
        obtain ⟨h1, ht⟩ := z_and ht
        obtain ⟨h2, ht⟩ := z_and ht
        obtain ⟨h3, ht⟩ := z_and ht
        obtain ⟨y, rfl, hy⟩ := tint_sp h1 g1
        have hpost := fin (some (.inl (.int y))) (by
          unfold tRes
          rw [Nat.eq_of_beq_eq_true h2]
          refine ⟨_, rfl, tle_ok h3 g1, fun c hc hv => ?_⟩
          obtain ⟨h4, h5⟩ := z_and (List.all_eq_true.mp ht c hc)
          have hm := List.contains_iff_mem.mp h4
          obtain ⟨u, u1, u2⟩ := hfx _ hm
          have u3 : zget L c.1 = zget (zarg 0 vs) c.1 := hS.2.2.2.2.2.2.2.1 _ hm
          rw [u1] at u3
          refine ⟨_, u2, ?_⟩
          show c.2.1 ≤ u.toInt ∧ u.toInt ≤ c.2.2
          unfold tretc at h5
          rcases (Bool.or_eq_true _ _).mp h5 with h6 | h6
          · obtain ⟨h6, h7⟩ := z_and h6
            have h6 := of_decide_eq_true h6
            have h7 := of_decide_eq_true h7
            have : y = 0 := Int32.toInt_inj.mp (by show y.toInt = 0; omega)
            rw [this] at hv
            exact absurd rfl hv
          · rcases (Bool.or_eq_true _ _).mp h6 with h6 | h6
            · split at h6
              · next w hw =>
                obtain ⟨h6, h7⟩ := z_and h6
                obtain ⟨h7, h8⟩ := z_and h7
                have h7 := of_decide_eq_true h7
                have h8 := of_decide_eq_true h8
                obtain ⟨vv, w1, w2⟩ := tget_ok hS.1 hw
                have w1 : zget L c.1 = some vv := w1
                rw [u3] at w1
                cases w1
                obtain ⟨z, hz, hz2⟩ := tint_sp h6 w2
                cases hz
                omega
              · cases h6
            · obtain ⟨k, hk, hk2⟩ := List.any_eq_true.mp h6
              obtain ⟨h7, h8⟩ := z_and hk2
              obtain ⟨h8, h9⟩ := z_and h8
              have h8 := of_decide_eq_true h8
              have h9 := of_decide_eq_true h9
              obtain ⟨z, hz1, hz2⟩ := g2.2 k hk hv
              have hz1 : zget L k.1 = some (.inl (.int z)) := hz1
              rw [Nat.eq_of_beq_eq_true h7, u3] at hz1
              cases hz1
              omega)
        rw [he]
        unfold zret
        split at h0
        · next hret =>
          simp only [hret]
          exact t_and2 rfl hpost
        · next hret =>
          obtain ⟨h6, h7⟩ := z_and h0
          have h6 := of_decide_eq_true h6
          have h7 := of_decide_eq_true h7
          simp only [hret]
          refine t_and2 ?_ hpost
          show (y == 0 || y == 1) = true
          have h8 : y.toInt = 0 ∨ y.toInt = 1 := by omega
          rcases h8 with h8 | h8
          · have : y = 0 := Int32.toInt_inj.mp h8
            rw [this]
            rfl
          · have : y = 1 := Int32.toInt_inj.mp h8
            rw [this]
            rfl
        · cases h0
      · next a he =>
        obtain ⟨v, vs1, est, g1, g2, g3⟩ := okSt_cons hS.2.1
        have est : stk = v :: vs1 := est
        have e5 := okSt_nil g3
        subst e5
        subst est
        obtain ⟨h0, ht⟩ := z_and ht
        obtain ⟨h1, ht⟩ := z_and ht
        obtain ⟨h2, ht⟩ := z_and ht
        obtain ⟨h3, ht⟩ := z_and ht
        obtain ⟨y, rfl, hy⟩ := tlong_sp h1 g1
        have hpost := fin (some (.inl (.long y))) (by
          unfold tRes
          rw [Nat.eq_of_beq_eq_true h2]
          refine ⟨_, rfl, tle_ok h3 g1, fun c hc hv => ?_⟩
          rw [List.isEmpty_iff.mp ht] at hc
          cases hc)
        rw [he]
        exact t_and2 h0 (t_and2 rfl hpost)
      · next he =>
        have est : stk = [] := okSt_nil hS.2.1
        subst est
        obtain ⟨h0, ht⟩ := z_and ht
        have hpost := fin none (by
          unfold tRes
          rw [Nat.eq_of_beq_eq_true ht]
          show (none : Option zV) = none
          rfl)
        rw [he]
        exact t_and2 h0 hpost
      · cases ht
    · rw [if_neg hr] at ht ⊢
      exact tstep_sound (K := K) KG hS (fun k hk => by obtain ⟨u, u1, -⟩ := hfx k hk; exact ⟨u, u1⟩) hN hst hsm ht
  · cases ht
theorem trun_sound (HW : zWalk prog E scr (zEc E) (zEs E) cc post G) (hp : ∀ (r : Option zV) (T' : List Nat) (h' : zH), tExt T0 T' → hOK ty T' h' → Φ T' h' → h'.length ≤ N0 + zEc E → tRes T' vs e r → post r h' = true) (hfx : ∀ k ∈ fx, ∃ x : Int32, zget (zarg 0 vs) k = some (.inl (.int x)) ∧ vs[k]? = some (.inl (.int x))) (hN : N0 + zEc E ≤ 1000000) (hst : tStab ty tB Φ) (hsm : ∀ (j : Nat) (E : zE) (e : tE), prog j = some E → e ∈ sm j → hts j ≤ D0 → tCon ty Φ E cc j e) {fin : tK}
    (hfin : ∀ (T : List Nat) (pc : Nat) (aL : tL) (st : List tA) (nc ns : Nat) (x : zS), x.1 = pc → fin pc aL st nc ns = true → tSt ty Φ fx (zarg 0 vs) N0 (zEc E) T0 T aL st nc ns x → G x) :
    ∀ (n : Nat) (T : List Nat) (pc : Nat) (aL : tL) (st : List tA) (nc ns : Nat) (x : zS), x.1 = pc → trun ty tB prog sm hts fx D0 E e fin n pc aL st nc ns = true → tSt ty Φ fx (zarg 0 vs) N0 (zEc E) T0 T aL st nc ns x → G x := by
  intro n
  induction n with
  | zero =>
    intro T pc aL st nc ns x hx ht _
    exact absurd ht Bool.false_ne_true
  | succ n ih =>
    intro T pc aL st nc ns x hx ht hS
    have ht : (if fin pc aL st nc ns then true else tone ty tB prog sm hts fx D0 E e (trun ty tB prog sm hts fx D0 E e fin n) pc aL st nc ns) = true := ht
    by_cases hf : fin pc aL st nc ns = true
    · exact hfin T pc aL st nc ns x hx hf hS
    · rw [if_neg hf] at ht
      exact tone_sound HW hp hfx hN hst hsm ih hx ht hS
theorem tmt_ok {rest : List tCut} (IH : ∀ c ∈ rest, ∀ (T : List Nat) (x : zS), x.1 = c.1 → tSt ty Φ fx (zarg 0 vs) N0 (zEc E) T0 T c.2.1 [] c.2.2.1 c.2.2.2 x → G x) {T : List Nat} {pc nc ns : Nat} {aL aL' : tL} {x : zS} (hx : x.1 = pc) (hm : tmt rest pc nc ns aL' = true) (hL : okL T aL' x.2.1) (hS : tSt ty Φ fx (zarg 0 vs) N0 (zEc E) T0 T aL [] nc ns x) : G x := by
  obtain ⟨c, hc, h1⟩ := List.any_eq_true.mp hm
  obtain ⟨k2, r2⟩ := z_and h1
  obtain ⟨k3, r3⟩ := z_and r2
  obtain ⟨k4, r4⟩ := z_and r3
  have e2 := Nat.eq_of_beq_eq_true k2
  have e3 := Nat.eq_of_beq_eq_true k3
  have e4 := Nat.eq_of_beq_eq_true k4
  refine IH c hc T x (by rw [hx, e2]) ?_
  rw [← e3, ← e4]
  exact ⟨tleL_ok r4 hL, hS.2⟩
theorem tfin_ok {heads : List Nat} {sp : Nat → Option (Nat × Int × Int)} {rest : List tCut} (IH : ∀ c ∈ rest, ∀ (T : List Nat) (x : zS), x.1 = c.1 → tSt ty Φ fx (zarg 0 vs) N0 (zEc E) T0 T c.2.1 [] c.2.2.1 c.2.2.2 x → G x) (T : List Nat) (pc : Nat) (aL : tL) (st : List tA) (nc ns : Nat) (x : zS) (hx : x.1 = pc) (hf : tfin heads sp rest pc aL st nc ns = true) (hS : tSt ty Φ fx (zarg 0 vs) N0 (zEc E) T0 T aL st nc ns x) : G x := by
  unfold tfin at hf
  obtain ⟨-, hf1⟩ := z_and hf
  obtain ⟨hem, hf2⟩ := z_and hf1
  obtain rfl : st = [] := List.isEmpty_iff.mp hem
  clear hf hf1 hem
  have hf := hf2
  clear hf2
  split at hf
  · next q hq =>
    split at hf
    · next v hv =>
      obtain ⟨h2, hf⟩ := z_and hf
      obtain ⟨h3, hf⟩ := z_and hf
      obtain ⟨h4, hf⟩ := z_and hf
      obtain ⟨w, g1, g2⟩ := tget_ok hS.1 hv
      obtain ⟨u, rfl, b1, b2⟩ := tint_sp h2 g2
      by_cases c1 : u.toInt ≤ q.2.1 - 1
      · obtain ⟨aL', k1, k2⟩ := tcutO_ok hS.1 g1 ⟨t_lo u, c1⟩ h3
        exact tmt_ok IH hx k2 k1 hS
      · by_cases c2 : q.2.2 + 1 ≤ u.toInt
        · obtain ⟨aL', k1, k2⟩ := tcutO_ok hS.1 g1 ⟨c2, t_hi u⟩ h4
          exact tmt_ok IH hx k2 k1 hS
        · have hmem : (u.toInt - max (tlo v) q.2.1).toNat ∈ List.range (min (thi v) q.2.2 - max (tlo v) q.2.1 + 1).toNat := List.mem_range.mpr (by omega)
          have h5 := List.all_eq_true.mp hf _ hmem
          have e : max (tlo v) q.2.1 + (((u.toInt - max (tlo v) q.2.1).toNat : Nat) : Int) = u.toInt := by omega
          rw [e] at h5
          obtain ⟨aL', k1, k2⟩ := tcutO_ok hS.1 g1 ⟨Int.le_refl _, Int.le_refl _⟩ h5
          exact tmt_ok IH hx k2 k1 hS
    · cases hf
  · exact tmt_ok IH hx hf hS.1 hS
theorem tchk_sound (HW : zWalk prog E scr (zEc E) (zEs E) cc post G) (hp : ∀ (r : Option zV) (T' : List Nat) (h' : zH), tExt T0 T' → hOK ty T' h' → Φ T' h' → h'.length ≤ N0 + zEc E → tRes T' vs e r → post r h' = true) (hfx : ∀ k ∈ fx, ∃ x : Int32, zget (zarg 0 vs) k = some (.inl (.int x)) ∧ vs[k]? = some (.inl (.int x))) (hN : N0 + zEc E ≤ 1000000) (hst : tStab ty tB Φ) (hsm : ∀ (j : Nat) (E : zE) (e : tE), prog j = some E → e ∈ sm j → hts j ≤ D0 → tCon ty Φ E cc j e) {heads : List Nat} {sp : Nat → Option (Nat × Int × Int)} {fuel : Nat} :
    ∀ (cuts : List tCut), tchk ty tB prog sm hts fx D0 E e heads sp fuel cuts = true → ∀ c ∈ cuts, ∀ (T : List Nat) (x : zS), x.1 = c.1 → tSt ty Φ fx (zarg 0 vs) N0 (zEc E) T0 T c.2.1 [] c.2.2.1 c.2.2.2 x → G x
  | [], _, c, hc => by cases hc
  | d :: rest, hk, c, hc => by
    obtain ⟨h1, h2⟩ := z_and hk
    have ih := tchk_sound HW hp hfx hN hst hsm rest h2
    rcases List.mem_cons.mp hc with rfl | hc
    · intro T x hx hS
      exact tone_sound HW hp hfx hN hst hsm (trun_sound HW hp hfx hN hst hsm (tfin_ok ih) fuel) hx h1 hS
    · exact ih c hc
end
/-- what all callers of a method may take for granted, at every depth from hts j on -/
def tAll (ty : Nat → tTy) (Φ : List Nat → zH → Prop) (prog : Nat → Option zE) (scr : List zV) (hts : Nat → Nat) (j : Nat) (e : tE) : Prop := ∀ (E : zE), prog j = some E → ∀ d, hts j ≤ d → tCon ty Φ E (zD prog scr d) j e
def tM (ty : Nat → tTy) (Φ : List Nat → zH → Prop) (prog : Nat → Option zE) (scr : List zV) (hts : Nat → Nat) (sm : Nat → List tE) (j : Nat) (e : tE) : Prop := (∀ (j' : Nat) (e' : tE), e' ∈ sm j' → hts j' < hts j → tAll ty Φ prog scr hts j' e') → tAll ty Φ prog scr hts j e
/-- a method whose rows the checker takes -/
theorem t_meth {ty : Nat → tTy} {tB : Nat} {prog : Nat → Option zE} {sm : Nat → List tE} {hts : Nat → Nat} {scr : List zV} {Φ : List Nat → zH → Prop} {j D0 fuel : Nat} {E : zE} {e : tE} {fx heads : List Nat} {sp : Nat → Option (Nat × Int × Int)} {cuts : List tCut} (hst : tStab ty tB Φ) (hE : prog j = some E) (hD : hts j = D0 + 1) (hs : Nat.ble (tsum e.1) (zEm E) = true) (hf : tfxok e.1 fx = true)
    (hk : tchk ty tB prog sm hts fx D0 E e heads sp fuel ((0, tinit 0 e.1, 0, 0) :: cuts) = true) : tM ty Φ prog scr hts sm j e := by
  intro IH E' hE' d hd T h vs post hok hΦ hlen hvs hp
  rw [hE] at hE'
  cases hE'
  obtain ⟨d, rfl⟩ : ∃ d', d = d' + 1 := ⟨d - 1, by omega⟩
  refine zD_intro hE (by rw [okAs_sum hvs]; exact hs) (fun G HW => ?_)
  refine tchk_sound (N0 := h.length) (T0 := T) HW hp (tfx_ok hf hvs) hlen hst (fun j' E' e' h1 h2 h3 => IH j' e' h2 (by omega) E' h1 d (by omega)) _ hk _ List.mem_cons_self T _ rfl ⟨fun p hq => (tinit_ok 0 hvs p hq).2, trivial, hok, hΦ, Nat.le_refl _, rfl, rfl, fun k _ => rfl, tExt_rf T, Nat.zero_le _⟩
