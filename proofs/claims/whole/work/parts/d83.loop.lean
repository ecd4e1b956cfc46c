section
variable {T T2 : List Nat} {h h' h'' k0 kb k' : zH} {B : Nat → Int32} {n e nt : Nat} {S S' : ST} {D : Nat → Int32}
/-- all but the count of statements -/
def fb (k0 kb : zH) : Prop := ∀ m i, ¬ (m = 49 ∧ i = 34) → hget kb m i = hget k0 m i
/-- what both make of a text -/
def FN (T T2 : List Nat) (h k0 : zH) (B : Nat → Int32) (n nt : Nat) (r k : Int32 × zH) : Prop := ∃ kb, fb k0 kb ∧ ((k.1 = 0 ∧ ∃ f, f ≤ n ∧ r.1 = -20 - nI f ∧ CQ T h B n r.2 ∧ RW T2 kb B n f k.2) ∨ (k.1 = 1 ∧ ∃ S c e D, c ≤ 1000 ∧ r.1 = nI c ∧ hv kb 49 34 = nI c ∧ CP T h B n S e r.2 ∧ RP T2 kb B n S e D k.2 ∧ ownS S ∧ nt ≤ nT S))
/-- the count of statements written -/
theorem rp_34 (q : RP T2 kb B n S e D k') (Kb : hOK kty T2 kb) (x : Int32) : RP T2 (hput kb 49 34 (.inl (.int x))) B n S e D (hput k' 49 34 (.inl (.int x))) ∧ fb kb (hput kb 49 34 (.inl (.int x))) ∧ hv (hput kb 49 34 (.inl (.int x))) 49 34 = x ∧ hOK kty T2 (hput kb 49 34 (.inl (.int x))) := by
  obtain ⟨⟨c1, c2, c3, c4, c5, c6, c7⟩, d1, d2, d3, d4, d5⟩ := q
  have ht : T2[49]? = some 5 := c7 _ _ rfl
  have gb := k_int Kb ht (i := 34) (by decide) rfl
  have gk := k_int c1 ht (i := 34) (by decide) rfl
  have f : ∀ m j, ¬ (m = 49 ∧ j = 34) → hget (hput k' 49 34 (.inl (.int x))) m j = hget k' m j := fun m j hn => hget_put_ne (by omega)
  have f2 : fb kb (hput kb 49 34 (.inl (.int x))) := fun m j hn => hget_put_ne (by omega)
  refine ⟨⟨⟨k_put c1 ht rfl x, rNP_eq (fun m j a b => f m j (fun y => by have := a y.1; omega)) c2, ⟨(hr_eq (f 49 6 (by omega))).trans c3.1, (hv_eq (f 49 7 (by omega))).trans c3.2.1, c3.2.2.1, fun j hj => (hv_eq (f 64 j (by omega))).trans (c3.2.2.2 j hj)⟩, fun m j a b d => ?_, (hr_eq (f 49 33 (by omega))).trans c5, fun j hj => (hv_eq (f 78 j (by omega))).trans (c6 j hj), c7⟩, d1, (hv_eq (f 49 28 (by omega))).trans d2, (hv_eq (f 49 29 (by omega))).trans d3, (hv_eq (f 49 30 (by omega))).trans d4, (hv_eq (f 49 31 (by omega))).trans d5⟩, f2, hv_put gb, k_put Kb ht rfl x⟩
  by_cases y : m = 49 ∧ j = 34
  · rw [y.1, y.2, hget_put gk, hget_put gb]
  · rw [f m j y, f2 m j y]
    exact c4 m j a b d
theorem rp_h34 (q : RP T2 kb B n S e D k') : hv k' 49 34 = hv kb 49 34 := hv_eq (q.1.2.2.2.1 49 34 (fun ⟨d, e1, hc⟩ => rc_no (by omega) (by omega) hc) (by omega) (by decide))
theorem fb_t (a : fb k0 kb) {k2 : zH} (b : fb kb k2) : fb k0 k2 := fun m i hn => (b m i hn).trans (a m i hn)
theorem s_loop : ∀ k j e : Nat, ∀ (S : ST) (D : Nat → Int32) (h' k' kb : zH) (G : zH → zH), j + k = 251 → j ≤ e → CP T h B n S e h' → RP T2 kb B n S e D k' → ownS S → nt ≤ nT S → fb k0 kb → hOK kty T2 kb → (∀ (S : ST) (e : Nat) (D : Nat → Int32) (u : zH), RP T2 kb B n S e D u → ∃ kb', RP T2 kb' B n S e D (G u) ∧ fb kb kb' ∧ hv kb' 49 34 = nI (j + 1) ∧ hOK kty T2 kb') → FN T T2 h k0 B n nt (fx (B_X2_readInto_13 29 17) (0, []) (nI j, nI j, h')) (letf (F_X5_statement k' 49) (fun y => if y.1 = (0 : Int32) then ((0 : Int32), y.2) else fx (B_X5_readAll_23 49) (0, []) (G y.2))) := by
  intro k
  induction k with
  | zero =>
    intro j e S D h' k' kb G hj he c
    have := c.2.2.1
    have := c.1.2.1.2.2.1
    omega
  | succ k ih =>
    intro j e S D h' k' kb G hj he c q o t f0 Kb hG
    have e250 : ¬ (250 : Int32) < nI j := fun y => by
      have := (nIlt (a := 250) (by decide) (by omega)).mp y
      omega
    have sm := s_state c q o t
    have eB : B_X2_readInto_13 29 17 (nI j, nI j, h') = if (F_X2_readStatement h' 29 17).1 = (0 : Int32) then Sum.inr (((-20 : Int32) - (hv (F_X2_readStatement h' 29 17).2 29 3)), (F_X2_readStatement h' 29 17).2) else if (hv (F_X2_readStatement h' 29 17).2 29 2) = (0 : Int32) then Sum.inr (nI (j + 1), (F_X2_readStatement h' 29 17).2) else if (hv (F_X2_readStatement h' 29 17).2 29 2) = (3 : Int32) then Sum.inl (nI (j + 1), nI (j + 1), F_X2_step (F_X2_readStatement h' 29 17).2 29) else Sum.inr (((-20 : Int32) - (hv (F_X2_readStatement h' 29 17).2 29 3)), (F_X2_readStatement h' 29 17).2) := by
      unfold B_X2_readInto_13
      simp only [letf]
      rw [if_neg e250, nI_s]
    simp only [letf]
    generalize F_X2_readStatement h' 29 17 = r at sm eB
    generalize F_X5_statement k' 49 = y at sm ⊢
    obtain ⟨r1, r2⟩ := r
    obtain ⟨y1, y2⟩ := y
    rcases sm with ⟨a1, a2, f, f1, f2, f3, f4⟩ | ⟨a1, a2, S1, e1, D1, b1, b2, b3, b4, b5⟩
    · have a1 : r1 = 0 := a1
      have a2 : y1 = 0 := a2
      subst a1
      subst a2
      rw [if_pos rfl] at eB
      rw [fx_stop eB]
      dsimp only
      rw [if_pos rfl]
      have f3 : hv r2 29 3 = nI f := f3
      exact ⟨kb, f0, Or.inl ⟨rfl, f, f1, by rw [f3], f2, f4⟩⟩
    · have a1 : r1 = 1 := a1
      have a2 : y1 = 1 := a2
      subst a1
      subst a2
      have b1 : CP T h B n S1 e1 r2 := b1
      have b2 : RP T2 kb B n S1 e1 D1 y2 := b2
      obtain ⟨kb', g1, g2, g3, g4⟩ := hG S1 e1 D1 y2 b2
      have kk := lxK_b (B := B) (n := n) (e := e1)
      have t2 : hv r2 29 2 = nI (lxK B n e1) := b1.2.2.2.1
      have t3 : hv r2 29 3 = nI (lxS B n e1) := b1.2.2.2.2.1
      have u2 : hv (G y2) 49 29 = nI (lxR B n e1) := g1.2.2.2.1
      have z0 : nI (lxK B n e1) = (0 : Int32) ↔ lxK B n e1 = 0 := nIeq (b := 0) (by omega) (by decide)
      have z3 : nI (lxK B n e1) = (3 : Int32) ↔ lxK B n e1 = 3 := nIeq (b := 3) (by omega) (by decide)
      rw [if_neg t10] at eB
      dsimp only at eB ⊢
      rw [t2, t3] at eB
      rw [if_neg t10]
      by_cases k0' : lxK B n e1 = 0
      · rw [if_pos (z0.mpr k0')] at eB
        have eR : B_X5_readAll_23 49 (G y2) = Sum.inr (1, G y2) := by
          unfold B_X5_readAll_23
          rw [u2, if_pos (lxR_i.2.1.mpr k0')]
        rw [fx_stop eB, fx_stop eR]
        exact ⟨kb', fb_t f0 g2, Or.inr ⟨rfl, S1, j + 1, e1, D1, by omega, rfl, g3, b1, g1, b4, b5⟩⟩
      · rw [if_neg (fun w => k0' (z0.mp w))] at eB
        by_cases k3 : lxK B n e1 = 3
        · rw [if_pos (z3.mpr k3)] at eB
          have eR : fx (B_X5_readAll_23 49) (0, []) (G y2) = letf (F_X5_statement (F_X5_look (G y2) 49) 49) (fun y => if y.1 = (0 : Int32) then ((0 : Int32), y.2) else fx (B_X5_readAll_23 49) (0, []) (hput y.2 49 34 (.inl (.int (hv y.2 49 34 + (1 : Int32)))))) := by
            have e1 : B_X5_readAll_23 49 (G y2) = if (F_X5_statement (F_X5_look (G y2) 49) 49).1 = (0 : Int32) then Sum.inr ((0 : Int32), (F_X5_statement (F_X5_look (G y2) 49) 49).2) else Sum.inl (hput (F_X5_statement (F_X5_look (G y2) 49) 49).2 49 34 (.inl (.int (hv (F_X5_statement (F_X5_look (G y2) 49) 49).2 49 34 + (1 : Int32))))) := by
              unfold B_X5_readAll_23
              simp only [letf]
              rw [u2, if_neg (fun w => k0' (lxR_i.2.1.mp w)), if_pos (lxR_i.2.2.mpr k3)]
            simp only [letf]
            by_cases w : (F_X5_statement (F_X5_look (G y2) 49) 49).1 = (0 : Int32)
            · rw [if_pos w] at e1
              rw [fx_stop e1, if_pos w]
            · rw [if_neg w] at e1
              rw [fx_step e1, if_neg w]
          rw [fx_step eB, eR]
          have gt := lxE_gt (B := B) b1.2.2.1 (by rw [k3]; decide)
          have ge := (lxS_p (B := B) b1.2.2.1).1
          refine ih (j + 1) (lxE B n e1) S1 D1 _ _ kb' (fun u => hput u 49 34 (.inl (.int (hv u 49 34 + (1 : Int32))))) (by omega) (by omega) (cp_step b1) (rp_look g1) b4 b5 (fb_t f0 g2) g4 (fun S e D u qu => ?_)
          have hu := rp_h34 qu
          obtain ⟨x1, x2, x3, x4⟩ := rp_34 qu g4 (hv u 49 34 + 1)
          exact ⟨_, x1, x2, x3.trans (by rw [hu, g3, nI_s]), x4⟩
        · rw [if_neg (fun w => k3 (z3.mp w))] at eB
          obtain ⟨rr, w1, w2⟩ := r_wr g1
          have eR : B_X5_readAll_23 49 (G y2) = Sum.inr (0, rr) := by
            unfold B_X5_readAll_23
            simp only [letf]
            rw [u2, if_neg (fun w => k0' (lxR_i.2.1.mp w)), if_neg (fun w => k3 (lxR_i.2.2.mp w)), w1]
          rw [fx_stop eB, fx_stop eR]
          exact ⟨kb', fb_t f0 g2, Or.inl ⟨rfl, _, (lxS_p b1.2.2.1).2.1, rfl, b1.1, w2⟩⟩
/-- the whole text -/
theorem s_read (c : CQ T h B n h') (hS : cAbs h' 17 = S) (q : RQ T2 k0 B n S D k') (ek : k' = k0) (o : ownS S) (t : nt ≤ nT S) : FN T T2 h k0 B n nt (F_X2_readInto h' 29 17) (F_X5_readAll k' 49) := by
  subst ek
  have c4 := c.2.2.2
  have p0 : TPc T h' (hv h' 29 2) (hv h' 29 3) (hv h' 29 4) (hv h' 29 5) h' := ⟨c.1.1, fun _ _ _ => rfl, rfl, rfl, rfl, rfl⟩
  have p1 := tpc_4 c4 p0 (nI 0)
  have cp : CP T h B n S 0 (F_X2_step (hput h' 29 4 (.inl (.int (0 : Int32)))) 29) := cp_of c hS (Nat.zero_le n) p1
  obtain ⟨c1, c2, c3, c4', c5, c6, c7⟩ := id q
  have ht : T2[49]? = some 5 := c7 _ _ rfl
  have g := k_int c1 ht (i := 34) (by decide) rfl
  have f : ∀ m j, ¬ (m = 49 ∧ j = 34) → hget (hput k' 49 34 (.inl (.int (1 : Int32)))) m j = hget k' m j := fun m j hn => hget_put_ne (by omega)
  have q1 : RQ T2 (hput k' 49 34 (.inl (.int (1 : Int32)))) B n S D (hput k' 49 34 (.inl (.int (1 : Int32)))) := ⟨k_put c1 ht rfl 1, rNP_eq (fun m j a b => f m j (fun y => by have := a y.1; omega)) c2, ⟨(hr_eq (f 49 6 (by omega))).trans c3.1, (hv_eq (f 49 7 (by omega))).trans c3.2.1, c3.2.2.1, fun j hj => (hv_eq (f 64 j (by omega))).trans (c3.2.2.2 j hj)⟩, fun _ _ _ _ _ => rfl, (hr_eq (f 49 33 (by omega))).trans c5, fun j hj => (hv_eq (f 78 j (by omega))).trans (c6 j hj), c7⟩
  have r0 : TPr T2 (hput k' 49 34 (.inl (.int (1 : Int32)))) _ _ _ _ (hput k' 49 34 (.inl (.int (1 : Int32)))) := ⟨q1.1, fun _ _ _ => rfl, rfl, rfl, rfl, rfl⟩
  have r1 := tpr_28 ht r0 (nI 0)
  have rp : RP T2 (hput k' 49 34 (.inl (.int (1 : Int32)))) B n S 0 D (F_X5_look (hput (hput k' 49 34 (.inl (.int (1 : Int32)))) 49 28 (.inl (.int (0 : Int32)))) 49) := rp_of q1 (Nat.zero_le n) r1
  have key := s_loop (T := T) (T2 := T2) (h := h) (k0 := k') (B := B) (n := n) (nt := nt) 251 0 0 S D _ _ (hput k' 49 34 (.inl (.int (1 : Int32)))) (fun u => u) rfl (Nat.le_refl 0) cp rp o t f q1.1 (fun S e D u qu => ⟨_, qu, fun _ _ _ => rfl, hv_put g, q1.1⟩)
  unfold F_X2_readInto F_X5_readAll
  simp only [letf] at key ⊢
  exact key
end
