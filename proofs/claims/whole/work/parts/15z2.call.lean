section
variable {ty : Nat → tTy} {tB : Nat} {prog : Nat → Option zE} {sm : Nat → List tE} {hts : Nat → Nat} {fx : List Nat} {D0 nL rc rs N0 : Nat} {scr : List zV} {cc : zK} {Φ : List Nat → zH → Prop} {G : zS → Prop} {L0 L : zL} {T0 T : List Nat} {K : tK} {aL : tL} {st : List tA} {stk : List zV} {h : zH} {pc nc ns : Nat}
theorem tcall_ok (KG : ∀ (T : List Nat) (pc : Nat) (aL : tL) (st : List tA) (nc ns : Nat) (x : zS), x.1 = pc → K pc aL st nc ns = true → tSt ty Φ fx L0 N0 rc T0 T aL st nc ns x → G x) (hS : tSt ty Φ fx L0 N0 rc T0 T aL st nc ns (pc, L, stk, h, nc, ns)) (hN : N0 + rc ≤ 1000000) (hsm : ∀ (j : Nat) (E : zE) (e : tE), prog j = some E → e ∈ sm j → hts j ≤ D0 → tCon ty Φ E cc j e) {j pc' : Nat} {E : zE} {as rest : List tA} {vs restS : List zV} (hE : prog j = some E)
    (ht : tcall prog sm hts D0 rc rs j E as rest nc ns (fun st' nc' ns' => K pc' aL st' nc' ns') = true) (has : okSt T L as vs) (hr : okSt T L rest restS) :
    nc + zEc E ≤ rc ∧ ns + zEs E ≤ rs ∧ zsum restS ≤ 8 ∧ cc j vs h (fun v h' => zB (G (pc', L, zpush v restS, h', nc + zEc E, ns + zEs E))) = true := by
  unfold tcall at ht
  obtain ⟨h1, ht⟩ := z_and ht
  obtain ⟨h2, ht⟩ := z_and ht
  obtain ⟨h3, ht⟩ := z_and ht
  obtain ⟨h4, ht⟩ := z_and ht
  have h1 := z_ble h1
  have h2 := z_ble h2
  have h3 := z_ble h3
  have h4 := z_ble h4
  refine ⟨h2, h3, by rw [okSt_sum hr]; exact h4, ?_⟩
  split at ht
  · next e he =>
    have hm := List.mem_of_find?_eq_some he
    have hp := List.find?_some he
    refine hsm j E e hE hm h1 T h vs _ hS.2.2.1 hS.2.2.2.1 (by have := hS.2.2.2.2.1; show h.length + zEc E ≤ 1000000; have h5 : h.length ≤ N0 + nc := this; omega) (tles_ok hp has) (fun r T' h' hx hok hΦ hlen hres => ?_)
    have base : ∀ (st' : List tA) (stk' : List zV), okSt T' L st' stk' → K pc' aL st' (nc + zEc E) (ns + zEs E) = true → zB (G (pc', L, stk', h', nc + zEc E, ns + zEs E)) = true := fun st' stk' g1 g2 =>
      zB_iff.mpr (KG T' pc' aL st' _ _ _ rfl g2 ⟨okL_mono hx hS.1, g1, hok, hΦ, by have h5 : h.length ≤ N0 + nc := hS.2.2.2.2.1; show h'.length ≤ N0 + (nc + zEc E); omega, rfl, rfl, hS.2.2.2.2.2.2.2.1, tExt_tr hS.2.2.2.2.2.2.2.2.1 hx, h2⟩)
    have hr' := okSt_mono hx hr
    unfold tRes at hres
    split at ht
    · next q =>
      rw [q] at hres
      have hres : r = none := hres
      subst hres
      exact base rest restS hr' ht
    · next q =>
      rw [q] at hres
      obtain ⟨v, rfl, g1, g2⟩ := hres
      refine base ((e.2.2.1.1, e.2.2.1.2.1, e.2.2.1.2.2.1, (if e.2.2.1.1 ≤ 1 then 0 else e.2.2.1.2.2.2.1), tconds as e.2.2.2) :: rest) (v :: restS) ⟨⟨?_, ⟨fun k hk he => ?_, fun c hc hv => ?_⟩⟩, hr'⟩ ht
      · have g3 := okA_norm g1
        unfold okA at g3 ⊢
        exact g3
      · have he : (if e.2.2.1.1 ≤ 1 then 0 else e.2.2.1.2.2.2.1) = k + 1 := he
        have hk : e.2.2.1.1 ≤ 1 := hk
        rw [if_pos hk] at he
        omega
      · exact tconds_ok has (fun c hc => g2 c hc hv) c hc
    · next q1 q2 =>
      have hres : ∃ v, r = some v ∧ okA T' (tI 0 1) v ∧ (v ≠ .inl (.int 0) → ∃ a l m, vs[0]? = some a ∧ vs[1]? = some l ∧ vs[2]? = some m ∧ tval l ≤ tval a ∧ tval a ≤ tval m) := by
        split at hres
        · next q => exact absurd q q1
        · next q => exact absurd q q2
        · exact hres
      obtain ⟨v, rfl, g1, g2⟩ := hres
      obtain ⟨h5, ht⟩ := z_and ht
      refine base ((0, 0, 1, 0, twith as) :: rest) (v :: restS) ⟨⟨?_, ⟨fun k hk he => (by cases he), fun c hc hv => ?_⟩⟩, hr'⟩ ht
      · exact g1
      · exact twith_ok has (fun a ha => z_ble (List.all_eq_true.mp h5 a ha)) (g2 hv) c hc
  · cases ht
theorem tsw_ok {a : tA} {z : Int32} {lo : Int} {Kt : Nat → tL → Bool} (hL : okL T aL L) (ta : okTag L a (.inl (.int z))) (ia : tint a = true) (ha : tlo a ≤ z.toInt ∧ z.toInt ≤ thi a) : ∀ (offs : List Int) (i : Nat), tsw aL a pc lo offs Kt i = true → ∀ (n : Nat) (o : Int), offs[n]? = some o → lo + ((i + n : Nat) : Int) = z.toInt → ∃ t : Nat, (pc : Int) + o = (t : Int) ∧ ∃ aL', okL T aL' L ∧ Kt t aL' = true
  | [], _, _, n, o, ho, _ => by simp at ho
  | o0 :: os, i, hh, n, o, ho, hz => by
    unfold tsw at hh
    obtain ⟨h1, h2⟩ := z_and hh
    cases n with
    | zero =>
      simp only [List.getElem?_cons_zero, Option.some.injEq] at ho
      subst ho
      have hz : lo + (i : Int) = z.toInt := by simpa using hz
      rw [if_pos ⟨by omega, by omega⟩] at h1
      obtain ⟨t, e1, e2⟩ := zof_sp h1
      exact ⟨t, e1, tcutA_ok hL ta ia ha (by omega) e2⟩
    | succ n =>
      simp only [List.getElem?_cons_succ] at ho
      exact tsw_ok hL ta ia ha os (i + 1) h2 n o ho (by rw [← hz]; congr 2; omega)
end
