theorem zld_mk {P : zV → Bool} {L : zL} {i : Nat} {k : zV → Bool} {v : zV} (h : zget L i = some v) (hp : P v = true) (hk : k v = true) : zld P L i k = true := by
  unfold zld
  rw [h]
  show (P v && k v) = true
  rw [hp, hk]
  rfl
theorem t_blt {a b : Nat} (h : a < b) : Nat.blt a b = true := by simpa [Nat.blt_eq] using h
theorem t_ble {a b : Nat} (h : a ≤ b) : Nat.ble a b = true := Nat.ble_eq_true_of_le h
theorem t_and2 {a b : Bool} (h1 : a = true) (h2 : b = true) : (a && b) = true := by rw [h1, h2]; rfl
theorem zs1_mk {P : zV → Bool} {L : zL} {nL i : Nat} {v : zV} {r : List zV} {k : zL → List zV → Bool} (hp : P v = true) (hi : i < nL) (hk : k (zst1 L i v) r = true) : zs1 P L nL i (v :: r) k = true := t_and2 hp (t_and2 (t_blt hi) hk)
theorem zs2_mk {L : zL} {nL i : Nat} {v : zV} {r : List zV} {k : zL → List zV → Bool} (hp : zisL v = true) (hi : i + 1 < nL) (hk : k (zst2 L i v) r = true) : zs2 L nL i (v :: r) k = true := t_and2 hp (t_and2 (t_blt hi) hk)
theorem zrow_mk {h : zH} {q t : Nat} {vs : List zV} {k : List zV → Bool} (hq : h[q]? = some (t, vs)) (hl : q < 1000000) (hk : k vs = true) : zrow h q t k = true := by
  unfold zrow
  rw [hq]
  exact t_and2 (t_blt hl) (t_and2 (by rw [z_beq]; simp) hk)
theorem zel_mk {vs : List zV} {i : Int32} {v : zV} {k : zV → Bool} (hi : 0 ≤ i.toInt) (hv : vs[i.toInt.toNat]? = some v) (hk : k v = true) : zel vs i k = true := by
  unfold zel
  rw [if_neg (fun q => by have := Int32.lt_iff_toInt_lt.mp q; have h0 : (0 : Int32).toInt = 0 := rfl; omega)]
  have e : i.toNatClampNeg = i.toInt.toNat := rfl
  rw [e, hv]
  exact hk
theorem zix_mk {vs : List zV} {i : Int32} (hi : 0 ≤ i.toInt) (hl : i.toInt < (vs.length : Int)) : zix vs i = true := by
  unfold zix
  rw [if_neg (fun q => by have := Int32.lt_iff_toInt_lt.mp q; have h0 : (0 : Int32).toInt = 0 := rfl; omega)]
  have e : i.toNatClampNeg = i.toInt.toNat := rfl
  rw [e]
  exact t_blt (by omega)
theorem tst_sp {fx : List Nat} {nL k : Nat} {P : tA → Bool} {st : List tA} {aL : tL} {K : tL → List tA → Bool} (h : tst fx nL k P st aL K = true) : ∃ a r, st = a :: r ∧ P a = true ∧ k < nL ∧ fx.contains k = false ∧ K (tput aL k a) (tfog k r) = true := by
  unfold tst at h
  split at h
  · next a r =>
    obtain ⟨h1, h⟩ := z_and h
    obtain ⟨h2, h⟩ := z_and h
    obtain ⟨h3, h⟩ := z_and h
    exact ⟨a, r, rfl, h1, z_blt h2, by simpa using h3, h⟩
  · cases h
theorem tst2_sp {fx : List Nat} {nL k : Nat} {st : List tA} {aL : tL} {K : tL → List tA → Bool} (h : tst2 fx nL k st aL K = true) : ∃ a r, st = a :: r ∧ tlong a = true ∧ k + 1 < nL ∧ fx.contains k = false ∧ fx.contains (k + 1) = false ∧ K (tput2 aL k a) (tfog k (tfog (k + 1) r)) = true := by
  unfold tst2 at h
  split at h
  · next a r =>
    obtain ⟨h1, h⟩ := z_and h
    obtain ⟨h2, h⟩ := z_and h
    obtain ⟨h3, h⟩ := z_and h
    obtain ⟨h4, h⟩ := z_and h
    exact ⟨a, r, rfl, h1, z_blt h2, by simpa using h3, by simpa using h4, h⟩
  · cases h
theorem tld_sp {P : tA → Bool} {aL : tL} {k : Nat} {K : tA → Bool} (h : tld P aL k K = true) : ∃ a, tget aL k = some a ∧ P a = true ∧ K (tpush k a) = true := by
  unfold tld at h
  split at h
  · next a ha => exact ⟨a, ha, (z_and h).1, (z_and h).2⟩
  · cases h
theorem tbin_sp {st : List tA} {f : tA → tA → tA} {K : List tA → Bool} (h : tbin st f K = true) : ∃ b a r, st = b :: a :: r ∧ tint a = true ∧ tint b = true ∧ K (f a b :: r) = true := by
  unfold tbin at h
  split at h
  · next b a r => exact ⟨b, a, r, rfl, (z_and h).1, (z_and (z_and h).2).1, (z_and (z_and h).2).2⟩
  · cases h
theorem tbinL_sp {st : List tA} {K : List tA → Bool} (h : tbinL st K = true) : ∃ b a r, st = b :: a :: r ∧ tlong a = true ∧ tlong b = true ∧ K (tLf :: r) = true := by
  unfold tbinL at h
  split at h
  · next b a r => exact ⟨b, a, r, rfl, (z_and h).1, (z_and (z_and h).2).1, (z_and (z_and h).2).2⟩
  · cases h
theorem tshL_sp {st : List tA} {K : List tA → Bool} (h : tshL st K = true) : ∃ b a r, st = b :: a :: r ∧ tlong a = true ∧ tint b = true ∧ K (tLf :: r) = true := by
  unfold tshL at h
  split at h
  · next b a r => exact ⟨b, a, r, rfl, (z_and h).1, (z_and (z_and h).2).1, (z_and (z_and h).2).2⟩
  · cases h
theorem tun_sp {st : List tA} {f : tA → tA} {K : List tA → Bool} (h : tun st f K = true) : ∃ a r, st = a :: r ∧ tint a = true ∧ K (f a :: r) = true := by
  unfold tun at h
  split at h
  · next a r => exact ⟨a, r, rfl, (z_and h).1, (z_and h).2⟩
  · cases h
theorem tisR_sp {T : List Nat} {a : tA} {v : zV} (h : tisR a = true) (ho : okA T a v) : ∃ q : Nat, v = .inl (.ref q) := by
  unfold tisR at h
  rcases (Bool.or_eq_true _ _).mp h with h1 | h1
  · obtain ⟨q, h2, -⟩ := tref_sp (a := a) h1 ho
    exact ⟨q, h2⟩
  · have h1 : a.1 = 4 := Nat.eq_of_beq_eq_true h1
    unfold okA at ho
    rw [h1] at ho
    exact ⟨_, ho⟩
theorem ncat {T : List Nat} {a : tA} {v : zV} (h : (!(tlong a)) = true) (ho : okA T a v) : Nat.beq (zcat v) 1 = true := by
  rw [okA_cat ho]
  have h1 : ¬ a.1 = 1 := fun q => by
    unfold tlong at h
    rw [q] at h
    exact absurd h (by decide)
  unfold tcat
  rw [if_neg h1]
  rfl
theorem tslot_sp {T : List Nat} {s : tSl} {v : zV} {K : tA → Bool} (h : tslot s K = true) (ho : okS T s v) : ∃ a, K a = true ∧ okA T a v ∧ ∀ L, okTag L a v := by
  unfold tslot at h
  unfold okS at ho
  split at h
  · next q =>
    rw [q] at ho
    obtain ⟨x, rfl, h1, h2⟩ := ho
    exact ⟨_, h, okA_I h1 h2, fun _ => okTag_plain (tplain_I _ _)⟩
  · next q =>
    rw [q] at ho
    obtain ⟨x, rfl⟩ := ho
    exact ⟨_, h, okA_Lf x, fun _ => okTag_plain tplain_Lf⟩
  · next q =>
    rw [q] at ho
    obtain ⟨k, rfl, h1⟩ := ho
    exact ⟨_, h, ⟨k, rfl, h1⟩, fun _ => okTag_none (Or.inr (by show 2 ≤ 2; omega)) rfl⟩
  · cases h
theorem tfits_sp {T : List Nat} {s : tSl} {c : Nat} {a : tA} {v : zV} (h : tfits s c a = true) (ho : okA T a v) : s.2.2.2.2 = true ∧ okS T s v ∧ zfit c v = true := by
  unfold tfits at h
  obtain ⟨h1, h2⟩ := z_and h
  refine ⟨h1, ?_⟩
  unfold okS
  split at h2
  · next q =>
    obtain ⟨g1, h2⟩ := z_and h2
    obtain ⟨g2, h2⟩ := z_and h2
    obtain ⟨g3, h2⟩ := z_and h2
    obtain ⟨x, rfl, b1, b2⟩ := tint_sp g1 ho
    have g2 := of_decide_eq_true g2
    have g3 := of_decide_eq_true g3
    simp only [q]
    refine ⟨⟨x, rfl, by omega, by omega⟩, ?_⟩
    rcases (Bool.or_eq_true _ _).mp h2 with h3 | h3
    · rw [Nat.eq_of_beq_eq_true h3]
      rfl
    · obtain ⟨h3, h4⟩ := z_and h3
      obtain ⟨h4, h5⟩ := z_and h4
      have h4 := of_decide_eq_true h4
      have h5 := of_decide_eq_true h5
      rw [Nat.eq_of_beq_eq_true h3]
      show (x == 0 || x == 1) = true
      have h6 : x.toInt = 0 ∨ x.toInt = 1 := by omega
      rcases h6 with h6 | h6
      · have : x = 0 := Int32.toInt_inj.mp h6
        rw [this]
        rfl
      · have : x = 1 := Int32.toInt_inj.mp h6
        rw [this]
        rfl
  · next q =>
    obtain ⟨g1, h2⟩ := z_and h2
    obtain ⟨x, rfl, -⟩ := tlong_sp g1 ho
    simp only [q]
    refine ⟨⟨x, rfl⟩, ?_⟩
    rw [Nat.eq_of_beq_eq_true h2]
    rfl
  · cases h2
theorem tidx_sp {ty : Nat → tTy} {T : List Nat} {h : zH} {tag : Nat} {r i : tA} {vr vi : zV} {K : tSl → Bool} (hh : hOK ty T h) (hk : tidx ty tag r i K = true) (hr : okA T r vr) (hi : okA T i vi) : ∃ (q : Nat) (x : Int32) (vs : List zV) (v : zV), vr = .inl (.ref q) ∧ vi = .inl (.int x) ∧ T[q]? = some (taux r) ∧ (ty (taux r)).1 = tag ∧ h[q]? = some (tag, vs) ∧ q < 1000000 ∧ 0 ≤ x.toInt ∧ x.toInt < (vs.length : Int) ∧ vs[x.toInt.toNat]? = some v ∧ (∀ (i : Nat) (v : zV), vs[i]? = some v → okS T ((ty (taux r)).2.2 i) v) ∧ K ((ty (taux r)).2.2 0) = true := by
  unfold tidx at hk
  obtain ⟨h1, hk⟩ := z_and hk
  obtain ⟨h2, hk⟩ := z_and hk
  obtain ⟨h3, hk⟩ := z_and hk
  obtain ⟨h4, hk⟩ := z_and hk
  obtain ⟨h5, hk⟩ := z_and hk
  obtain ⟨q, rfl, hq⟩ := tref_sp h1 hr
  obtain ⟨x, rfl, b1, b2⟩ := tint_sp h2 hi
  have h3 := Nat.eq_of_beq_eq_true h3
  have h4 := of_decide_eq_true h4
  have h5 := of_decide_eq_true h5
  obtain ⟨e1, e2, e3⟩ := hh
  obtain ⟨vs, g1, g2, g3⟩ := e3 q _ hq
  rw [h3] at g1
  have hlt : x.toInt.toNat < vs.length := by rw [g2]; omega
  exact ⟨q, x, vs, vs[x.toInt.toNat], rfl, rfl, hq, h3, g1, by have := (List.getElem?_eq_some_iff.mp g1).1; omega, by omega, by omega, List.getElem?_eq_getElem hlt, g3, hk⟩
theorem tconds_ok {T : List Nat} {L : zL} {as : List tA} {vs : List zV} (hs : okSt T L as vs) : ∀ {cs : tC}, (∀ c ∈ cs, ∃ a, vs[c.1]? = some a ∧ c.2.1 ≤ tval a ∧ tval a ≤ c.2.2) → ∀ c ∈ tconds as cs, ∃ x : Int32, zget L c.1 = some (.inl (.int x)) ∧ c.2.1 ≤ x.toInt ∧ x.toInt ≤ c.2.2
  | [], _, c, hc => by cases hc
  | d :: cs, h, c, hc => by
    have ih := tconds_ok hs (cs := cs) (fun e he => h e (List.mem_cons_of_mem _ he))
    unfold tconds at hc
    split at hc
    · next a ha =>
      split at hc
      · next h1 =>
        split at hc
        · exact ih c hc
        · next k hk =>
          rcases List.mem_cons.mp hc with rfl | hc
          · obtain ⟨v, g1, g2, g3⟩ := okSt_get d.1 hs ha
            obtain ⟨w, e1, e2⟩ := h d List.mem_cons_self
            rw [g1] at e1
            cases e1
            obtain ⟨x, k1, k2⟩ := g3.1 k h1 hk
            refine ⟨x, k1, ?_⟩
            rw [← k2]
            exact e2
          · exact ih c hc
      · exact ih c hc
    · exact ih c hc
theorem okA_val {T : List Nat} {a : tA} {v : zV} (h : okA T a v) (h1 : a.1 ≤ 1) : tlo a ≤ tval v ∧ tval v ≤ thi a := by
  unfold okA at h
  split at h
  · obtain ⟨x, rfl, h2⟩ := h
    exact h2
  · obtain ⟨x, rfl, h2⟩ := h
    exact h2
  · omega
  · omega
  · exact h.elim
theorem twith_ok {T : List Nat} {L : zL} {as : List tA} {vs : List zV} (hs : okSt T L as vs) (hk : ∀ a ∈ as, a.1 ≤ 1) (hw : ∃ a l m, vs[0]? = some a ∧ vs[1]? = some l ∧ vs[2]? = some m ∧ tval l ≤ tval a ∧ tval a ≤ tval m) : ∀ c ∈ twith as, ∃ x : Int32, zget L c.1 = some (.inl (.int x)) ∧ c.2.1 ≤ x.toInt ∧ x.toInt ≤ c.2.2 := by
  intro c hc
  unfold twith at hc
  split at hc
  · next a l m r =>
    split at hc
    · next h1 =>
      split at hc
      · cases hc
      · next k hk2 =>
        rcases List.mem_cons.mp hc with rfl | hc
        · obtain ⟨va, vl, vm, e1, e2, e3, e4, e5⟩ := hw
          obtain ⟨va', g1, -, g3⟩ := okSt_get 0 hs (a := a) rfl
          obtain ⟨vl', f1, f2, -⟩ := okSt_get 1 hs (a := l) rfl
          obtain ⟨vm', p1, p2, -⟩ := okSt_get 2 hs (a := m) rfl
          rw [g1] at e1
          rw [f1] at e2
          rw [p1] at e3
          cases e1
          cases e2
          cases e3
          obtain ⟨x, k1, k2⟩ := g3.1 k h1 hk2
          have b1 := okA_val f2 (hk l (by simp))
          have b2 := okA_val p2 (hk m (by simp))
          refine ⟨x, k1, ?_⟩
          show tlo l ≤ x.toInt ∧ x.toInt ≤ thi m
          omega
        · cases hc
    · cases hc
  · cases hc
