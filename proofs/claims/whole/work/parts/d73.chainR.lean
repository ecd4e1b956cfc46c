section
variable {T : List Nat} {h h' : zH} {S : ST} {p : Nat}
/-- one set, by its things: the reference -/
theorem r_comesOn (rc : RC T h 49) (ra : rAbs h 49 = S) (tp : T[p]? = some 43) (hp : 79 ≤ p) {k m : Nat} (hm : inT S m) : hOK kty T (F_X5_comesOn h 49 (nI m) (nI k) (nI (inN S) - nI k) p) ∧ (∀ n i, n ≠ p → hget (F_X5_comesOn h 49 (nI m) (nI k) (nI (inN S) - nI k) p) n i = hget h n i) ∧ ∀ m', m' < 256 → (hv (F_X5_comesOn h 49 (nI m) (nI k) (nI (inN S) - nI k) p) p m' ≠ 0 ↔ hv h p m' ≠ 0 ∨ stpC S k m m') := by
  have w : WF S := ra ▸ rc.2.2.1
  have n8 := nT_8 w
  have one : (1 : Int32) &&& 1 = 1 := by decide
  have put : ∀ (s : zH) (x : Nat), hOK kty T s → x < 256 → hOK kty T (hput s p x (.inl (.int 1))) ∧ (∀ n i, n ≠ p → hget (hput s p x (.inl (.int 1))) n i = hget s n i) ∧ ∀ m', m' < 256 → (hv (hput s p x (.inl (.int 1))) p m' ≠ 0 ↔ hv s p m' ≠ 0 ∨ m' = x) := fun s x K hx => by
    have g := k_int K tp (i := x) hx rfl
    refine ⟨k_put K tp rfl 1, fun n i hn => hget_put_ne (Or.inl hn), fun m' hm' => ?_⟩
    by_cases e : m' = x
    · rw [e, hv_put g]
      exact ⟨fun _ => Or.inr rfl, fun _ => by decide⟩
    · rw [hv_ne (Or.inr e)]
      exact ⟨Or.inl, fun y => y.elim id (fun y => absurd y e)⟩
  have loop : ∀ s0 : zH, hOK kty T s0 → (∀ n i, n ≠ p → hget s0 n i = hget h n i) → (∀ m', m' < 256 → (hv s0 p m' ≠ 0 ↔ hv h p m' ≠ 0 ∨ (m' = m ∧ nI (pcount 8 m) < nI (inN S) - nI k))) → hOK kty T (fx (B_X5_comesOn_16 49 (nI m) (nI k) (nI (inN S) - nI k) p) [] ((0 : Int32), s0)) ∧ (∀ n i, n ≠ p → hget (fx (B_X5_comesOn_16 49 (nI m) (nI k) (nI (inN S) - nI k) p) [] ((0 : Int32), s0)) n i = hget h n i) ∧ ∀ m', m' < 256 → (hv (fx (B_X5_comesOn_16 49 (nI m) (nI k) (nI (inN S) - nI k) p) [] ((0 : Int32), s0)) p m' ≠ 0 ↔ hv h p m' ≠ 0 ∨ stpC S k m m') := by
    intro s0 K0 f0 v0
    refine fx_forI (F := B_X5_comesOn_16 49 (nI m) (nI k) (nI (inN S) - nI k) p) (d := [])
      (fun j (s : Int32 × zH) => s.1 = nI j ∧ hOK kty T s.2 ∧ (∀ n i, n ≠ p → hget s.2 n i = hget h n i) ∧ ∀ m', m' < 256 → (hv s.2 p m' ≠ 0 ↔ hv h p m' ≠ 0 ∨ (m' = m ∧ nI (pcount 8 m) < nI (inN S) - nI k) ∨ stpT S k m j m'))
      (fun r => hOK kty T r ∧ (∀ n i, n ≠ p → hget r n i = hget h n i) ∧ ∀ m', m' < 256 → (hv r p m' ≠ 0 ↔ hv h p m' ≠ 0 ∨ stpC S k m m')) (nT S) (fun s hs => ?_) (fun j s hj hs => ?_) ⟨rfl, K0, f0, fun m' hm' => ?_⟩
    · obtain ⟨s1, s2⟩ := s
      obtain ⟨e, K, f, v⟩ := hs
      have e : s1 = nI (nT S) := e
      subst e
      have f : ∀ n i, n ≠ p → hget s2 n i = hget h n i := f
      have e17 : hv s2 49 17 = S 0 7 := (hv_eq (f 49 17 (by omega))).trans (by rw [← ra]; rfl)
      unfold B_X5_comesOn_16
      dsimp only
      rw [e17, if_neg (fun y => absurd ((lt_T w (by omega)).mp y) (Nat.lt_irrefl _))]
      refine ⟨_, rfl, K, f, fun m' hm' => ?_⟩
      rw [stpT_n]
      exact v m' hm'
    · obtain ⟨s1, s2⟩ := s
      obtain ⟨e, K, f, v⟩ := hs
      have e : s1 = nI j := e
      subst e
      have K : hOK kty T s2 := K
      have f : ∀ n i, n ≠ p → hget s2 n i = hget h n i := f
      have e17 : hv s2 49 17 = S 0 7 := (hv_eq (f 49 17 (by omega))).trans (by rw [← ra]; rfl)
      have e13 : hv s2 49 13 = S 0 4 := (hv_eq (f 49 13 (by omega))).trans (by rw [← ra]; rfl)
      obtain ⟨rc2, ra2⟩ := RC_same rc K (tExt_rf T) (fun d i hd => f (49 + d) i (by omega))
      have ra3 : rAbs s2 49 = S := ra2.trans ra
      have rf := r_free rc2 (t := j) (by rw [ra3]; exact hj) (S 0 4 + nI k) (nI (inN S) - nI k)
      have rw2 := r_wonBy rc2 (t := j) (m := m) (by rw [ra3]; exact hj) hm.1
      rw [ra3] at rf rw2
      have wl := wonN_lt w (m := m) hj
      unfold B_X5_comesOn_16
      simp only [letf]
      rw [e17, if_pos ((lt_T w (by omega)).mpr hj), s_shr m hm.1 j (by omega), e13, rf, rw2, s_andnot hm.1 wl, nI_s, nI_c (by have := sDiff_lt m (wonN S j m); omega), one]
      by_cases y : nb m j = 0
      · rw [if_pos (by rw [y]; rfl)]
        refine Or.inr ⟨_, rfl, rfl, K, f, fun m' hm' => ?_⟩
        rw [v m' hm', stpT_s hj]
        exact ⟨fun z => z.elim Or.inl (fun z => Or.inr (z.elim Or.inl (fun z => Or.inr (Or.inl z)))), fun z => z.elim Or.inl (fun z => Or.inr (z.elim Or.inl (fun z => z.elim Or.inr (fun z => absurd y z.1))))⟩
      · rw [if_neg (fun z => y ((nI_z (by have := nb_lt m j; omega)).mp z))]
        by_cases fr : freeB S (S 0 4 + nI k) (nI (inN S) - nI k) j = true
        · rw [if_pos fr, if_neg t10]
          obtain ⟨K2, f2, v2⟩ := put s2 (sDiff m (wonN S j m)) K (sDiff_lt _ _)
          refine Or.inr ⟨_, rfl, rfl, K2, fun n i hn => (f2 n i hn).trans (f n i hn), fun m' hm' => ?_⟩
          rw [v2 m' hm', v m' hm', stpT_s hj]
          constructor
          · rintro ((q | q | q) | q)
            · exact Or.inl q
            · exact Or.inr (Or.inl q)
            · exact Or.inr (Or.inr (Or.inl q))
            · exact Or.inr (Or.inr (Or.inr ⟨y, fr, q⟩))
          · rintro (q | q | q | q)
            · exact Or.inl (Or.inl q)
            · exact Or.inl (Or.inr (Or.inl q))
            · exact Or.inl (Or.inr (Or.inr q))
            · exact Or.inr q.2.2
        · rw [if_neg fr, if_pos rfl]
          refine Or.inr ⟨_, rfl, rfl, K, f, fun m' hm' => ?_⟩
          rw [v m' hm', stpT_s hj]
          exact ⟨fun z => z.elim Or.inl (fun z => Or.inr (z.elim Or.inl (fun z => Or.inr (Or.inl z)))), fun z => z.elim Or.inl (fun z => Or.inr (z.elim Or.inl (fun z => z.elim Or.inr (fun z => absurd z.2.1 fr))))⟩
    · rw [v0 m' hm']
      exact ⟨fun z => z.elim Or.inl (fun z => Or.inr (Or.inl z)), fun z => z.elim Or.inl (fun z => Or.inr (z.elim id (fun z => absurd z (stpT_0 S k m m'))))⟩
  unfold F_X5_comesOn
  simp only [letf]
  rw [F_bits hm.1, nI_c (by have := hm.1; omega), one]
  by_cases y : nI (pcount 8 m) < nI (inN S) - nI k
  · rw [if_pos y]
    obtain ⟨K2, f2, v2⟩ := put h m rc.1 hm.1
    refine loop _ K2 f2 (fun m' hm' => ?_)
    rw [v2 m' hm']
    exact ⟨fun z => z.elim Or.inl (fun z => Or.inr ⟨z, y⟩), fun z => z.elim Or.inl (fun z => Or.inr z.1)⟩
  · rw [if_neg y]
    exact loop h rc.1 (fun _ _ _ => rfl) (fun m' hm' => ⟨Or.inl, fun z => z.elim id (fun z => absurd z.2 y)⟩)
end
