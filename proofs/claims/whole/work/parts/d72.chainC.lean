section
variable {T : List Nat} {h0 h h' : zH} {N A M J : Nat → Int32} {S : ST}
theorem mk_0 (g m : Nat) : mkB (fun _ => 0) g m = false := by
  unfold mkB
  show (0 : Int32).toBitVec.getLsbD (m % 32) = false
  exact BitVec.getLsbD_zero
/-- the class's fewest goes -/
theorem c_fewest {q t0 : Nat} (ht : tT T) (c : TH T h0 h N A M J) (cc : CC T h0 q) (hq : q + 8 ≤ 25) (h8 : t0 < nT (cAbs h0 q)) : (∃ N' A' M', TH T h0 (F_X3_fewestGoes h 25 q (nI t0)).2 N' A' M' J) ∧ (nb (stN (cAbs h0 q)) t0 = 0 → (F_X3_fewestGoes h 25 q (nI t0)).1 = 0) ∧ (nb (stN (cAbs h0 q)) t0 ≠ 0 → chnR (cAbs h0 q) t0 (F_X3_fewestGoes h 25 q (nI t0)).1) := by
  have w := cc.2.2.1
  have n8 := nT_8 w
  have h60 := inN_60 w (cAbs_10 h0 q)
  have st := own_lt w (-1)
  have st : stN (cAbs h0 q) < 256 := st
  have c1 := c_lookAt ht c cc hq
  obtain ⟨cc1, a1⟩ := th_cc c1 cc hq
  have es := c_stands cc1 (nI t0)
  rw [a1, nI_c (by omega)] at es
  have it := isT_n w h8
  have h4 : hv (F_X3_lookAt h 25 q) 25 4 = nI (stN (cAbs h0 q)) := c1.2.2.2.1 4 (by decide) (by decide)
  unfold F_X3_fewestGoes
  simp only [letf]
  rw [h4]
  have nbz : nb (stN (cAbs h0 q)) t0 = 0 ↔ ¬ cAbs h0 q 6 t0 = -1 := by
    rw [stN_nb]
    by_cases y : cAbs h0 q 6 t0 = -1
    · rw [if_pos ⟨h8, y⟩]
      exact ⟨fun z => absurd z (by decide), fun z => absurd y z⟩
    · rw [if_neg (fun z => y z.2)]
      exact ⟨fun _ => y, fun _ => rfl⟩
  by_cases y : cAbs h0 q 6 t0 = -1
  · rw [if_pos ⟨it, y⟩] at es
    rw [es, if_neg t10]
    have hn : nb (stN (cAbs h0 q)) t0 ≠ 0 := fun z => nbz.mp z y
    obtain ⟨M1, c2, c3⟩ := c_mark ht c1 (g := 0) (m := stN (cAbs h0 q)) (by omega) st
    have c2 : TH T h0 (F_X3_mark (F_X3_lookAt h 25 q) 25 (0 : Int32) (nI (stN (cAbs h0 q)))) (lkNs (cAbs h0 q)) (fun _ => 0) M1 J := c2
    obtain ⟨cc2, a2⟩ := th_cc c2 cc hq
    have ec := c_countIn cc2
    rw [a2] at ec
    rw [ec]
    generalize F_X3_mark (F_X3_lookAt h 25 q) 25 (0 : Int32) (nI (stN (cAbs h0 q))) = h3 at c2 ⊢
    have key : (∃ N' A' M', TH T h0 (fx (B_X3_fewestGoes_32 25 q (nI t0) (nI (inN (cAbs h0 q)))) (0, []) ((0 : Int32), h3)).2 N' A' M' J) ∧ chnR (cAbs h0 q) t0 (fx (B_X3_fewestGoes_32 25 q (nI t0) (nI (inN (cAbs h0 q)))) (0, []) ((0 : Int32), h3)).1 := by
      refine fx_forI (F := B_X3_fewestGoes_32 25 q (nI t0) (nI (inN (cAbs h0 q)))) (d := (0, []))
        (fun k (s : Int32 × zH) => s.1 = nI k ∧ (∀ j, j < k → ¬ hitL (cAbs h0 q) t0 j) ∧ ∃ M', TH T h0 s.2 (lkNs (cAbs h0 q)) (fun _ => 0) M' J ∧ (∀ m, m < 256 → (mkB M' k m = true ↔ rchC (cAbs h0 q) k m)) ∧ ∀ g m, k < g → g ≤ 60 → m < 256 → mkB M' g m = false)
        (fun r => (∃ N' A' M', TH T h0 r.2 N' A' M' J) ∧ chnR (cAbs h0 q) t0 r.1) 12 (fun s hs => ?_) (fun k s hk hs => ?_) ⟨rfl, fun j hj => absurd hj (Nat.not_lt_zero j), M1, c2, fun m hm => ?_, fun g m hg g6 hm => ?_⟩
      · obtain ⟨s1, s2⟩ := s
        obtain ⟨e, hn, M', d1, -, -⟩ := hs
        have e : s1 = nI 12 := e
        subst e
        unfold B_X3_fewestGoes_32
        dsimp only
        rw [if_neg (show ¬ nI 12 < (12 : Int32) by decide)]
        exact ⟨_, rfl, ⟨_, _, _, d1⟩, Or.inr ⟨hn, rfl⟩⟩
      · obtain ⟨s1, s2⟩ := s
        obtain ⟨e, hn, M', d1, d2, d3⟩ := hs
        have e : s1 = nI k := e
        subst e
        have d1 : TH T h0 s2 (lkNs (cAbs h0 q)) (fun _ => 0) M' J := d1
        obtain ⟨cc3, a3⟩ := th_cc d1 cc hq
        have h4 : hv s2 q 4 = cAbs h0 q 0 4 := by
          rw [← a3]
          rfl
        have er := c_ready cc3 (cAbs h0 q 0 4 + nI k) (nI (inN (cAbs h0 q)) - nI k)
        rw [a3] at er
        have k12 : nI k < (12 : Int32) := by
          rw [i_lt, nI_t (by omega), show (12 : Int32).toInt = 12 from rfl]
          omega
        unfold B_X3_fewestGoes_32
        simp only [letf]
        rw [if_pos k12, h4, er]
        rcases c_markNext w ht hk (show t0 < 8 by omega) d1 d2 d3 with ⟨r, e1, e2, M2, e3⟩ | ⟨r, M2, e1, e2, e3, e4, e5⟩
        · rw [e1, if_neg t10]
          exact Or.inl ⟨_, rfl, ⟨_, _, _, e3⟩, Or.inl ⟨k, hk, e2, hn, nI_s k⟩⟩
        · rw [e1, if_pos rfl]
          refine Or.inr ⟨_, rfl, nI_s k, fun j hj => ?_, M2, e3, e4, e5⟩
          by_cases z : j = k
          · rw [z]
            exact e2
          · exact hn j (by omega)
      · rw [c3 0 m (by omega) hm, mk_0]
        by_cases z : m = stN (cAbs h0 q)
        · rw [if_pos ⟨rfl, z⟩]
          exact ⟨fun _ => z, fun _ => rfl⟩
        · rw [if_neg (fun y => z y.2)]
          exact ⟨fun y => absurd y nff, fun y => absurd y z⟩
      · rw [c3 g m g6 hm, mk_0, if_neg (fun y => by omega)]
    exact ⟨key.1, fun z => absurd z hn, fun _ => key.2⟩
  · rw [if_neg (fun z => y z.2)] at es
    rw [es, if_pos rfl]
    exact ⟨⟨_, _, _, c1⟩, fun _ => rfl, fun z => absurd (nbz.mpr y) z⟩
end
section
variable {T T2 : List Nat} {h h2 h' h2' : zH} {N : ST} {K : Option ST} {C Z : Nat → Int32} {E : Nat → Nat → Int64} {n : Nat} {B R : Nat → Int32}
theorem h_fewest (H : HY T T2 h h2 N K C Z E n B R) {t0 : Nat} (h8 : t0 < nT N) : (CX (F_X3_fewestGoes h 25 1 (nI t0)).2 N K C Z E n B R ∧ fr49 h (F_X3_fewestGoes h 25 1 (nI t0)).2) ∧ (nb (stN N) t0 = 0 → (F_X3_fewestGoes h 25 1 (nI t0)).1 = 0) ∧ (nb (stN N) t0 ≠ 0 → chnR N t0 (F_X3_fewestGoes h 25 1 (nI t0)).1) := by
  have x := H.2.1
  have e := hca H
  have th := th_of H.1.1 x.2.2.2.2.1.1
  have key := c_fewest (tT_of H.1.2) th (hcc H) (by decide) (t0 := t0) (by rw [e]; exact h8)
  rw [e] at key
  obtain ⟨⟨N', A', M', k1⟩, k2, k3⟩ := key
  exact ⟨cx_th x k1.2.1 ⟨k1.2.2.1, (k1.2.2.2.2.2.2 0 (by decide)).trans x.2.2.2.2.1.2⟩, k2, k3⟩
end
