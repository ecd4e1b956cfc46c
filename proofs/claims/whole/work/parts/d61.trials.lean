section
variable {T T2 Tv : List Nat} {h h2 h' h2' hv0 h3 t0 : zH} {N N' S : ST} {K : Option ST} {C Z C' Z' : Nat → Int32} {E E' : Nat → Nat → Int64} {n : Nat} {B R : Nat → Int32} {p : Nat}
/-- what a trial leaves -/
def FR (hv0 : zH) (p : Nat) (t : zH) : Prop := ∀ m i, ¬ (m = 49 ∧ i = 40) → (∀ d, d < 29 → m ≠ p + d) → hget t m i = hget hv0 m i
def TQ (T Tv : List Nat) (h hv0 : zH) (N : ST) (p : Nat) (r k : Int32 × zH) : Prop := r.1 = k.1 ∧ ∃ S, CM T 17 h S r.2 ∧ WF S ∧ RC Tv k.2 p ∧ FR hv0 p k.2 ∧ hv k.2 49 40 = nI (sDiff (stN N) (stN S)) ∧ subS (stN S) (stN N)
theorem trial_sim (H : HY T T2 h h2 N K C Z E n B R) (ce : tExt zT0 Tv) (x : RX hv0 N K C Z E n B R) (hp : 79 ≤ p) {s : Nat} (hs : s < 8) (l1 : hv hv0 50 s = 1) {m a : Int32} (hm : 0 ≤ m.toInt ∧ m.toInt ≤ 40) (hz : m.toInt ≤ (Z s).toInt) (es : a.toNatClampNeg = s) (wa : ¬ F_X4_isWithin a 0 7 = 0) (c0 : CM T 17 h N h3) (r0 : RC Tv t0 p) (ra : rAbs t0 p = N) (f0 : FR hv0 p t0) (e40 : hv t0 49 40 = 0) : TQ T Tv h hv0 N p (fx (B_X4_firstWrong_14 0 a m 0) (0, []) ((0 : Int32), h3)) (fx (B_X5_wrongInA_13 49 (54 + s) m p) (0, []) ((0 : Int32), t0)) := by
  have wN := hw H
  have stl : stN N < 256 := own_lt wN (-1)
  have h31' := h31 H
  have h02 : hr h 0 2 = 17 := H.2.1.1.2.2.1
  obtain ⟨p1, p2, p3⟩ := hsh H hs
  obtain ⟨b2, b3, b4, b5, b6⟩ : isRow (C s) ∧ (0 ≤ (Z s).toInt ∧ (Z s).toInt ≤ 40) ∧ hv hv0 51 s = C s ∧ hv hv0 52 s = Z s ∧ ∀ i, i < 40 → hJ hv0 (54 + s) i = E s i := by
    rcases x.2.2.2.2.2.2 s hs with y | y | y
    · rw [y.1] at l1
      exact absurd l1 (by decide)
    · exact y.2
    · rw [y.1] at l1
      exact absurd l1 (by decide)
  have cm := clamp_i hm.1
  have n9 : hv hv0 49 9 = N 0 0 := by
    rw [← x.2.1.2.1]
    rfl
  have mlt : ∀ j : Nat, j < 1000 → (nI j < m ↔ j < m.toNatClampNeg) := fun j hj => by
    rw [i_lt, nI_t (by omega)]
    omega
  refine fx_sim (fun j (s' t : Int32 × zH) => s'.1 = nI j ∧ t.1 = nI j ∧ ∃ S, CM T 17 h S s'.2 ∧ WF S ∧ S 0 0 = N 0 0 ∧ RC Tv t.2 p ∧ rAbs t.2 p = S ∧ FR hv0 p t.2 ∧ hv t.2 49 40 = nI (sDiff (stN N) (stN S)) ∧ subS (stN S) (stN N)) (TQ T Tv h hv0 N p) m.toNatClampNeg ?_ ?_ ⟨rfl, rfl, N, c0, wN, rfl, r0, ra, f0, ?_, sub_rf _⟩
  · rintro ⟨s1, s2⟩ ⟨t1, t2⟩ ⟨e1, e2, S, c1, c2, c3, c4, c5, c6, c7, c8⟩
    have e1 : s1 = nI m.toNatClampNeg := e1
    have e2 : t1 = nI m.toNatClampNeg := e2
    subst e1
    subst e2
    have z : ¬ nI m.toNatClampNeg < m := fun y => absurd ((mlt _ (by omega)).mp y) (Nat.lt_irrefl _)
    unfold B_X4_firstWrong_14 B_X5_wrongInA_13
    dsimp only
    rw [if_neg z, if_neg z]
    exact ⟨_, _, rfl, rfl, rfl, S, c1, c2, c4, c6, c7, c8⟩
  · rintro j ⟨s1, s2⟩ ⟨t1, t2⟩ hj ⟨e1, e2, S, c1, c2, c3, c4, c5, c6, c7, c8⟩
    have e1 : s1 = nI j := e1
    have e2 : t1 = nI j := e2
    subst e1
    subst e2
    have c1 : CM T 17 h S s2 := c1
    have c4 : RC Tv t2 p := c4
    have c5 : rAbs t2 p = S := c5
    have c6 : FR hv0 p t2 := c6
    have c7 : hv t2 49 40 = nI (sDiff (stN N) (stN S)) := c7
    obtain ⟨d1, d2, d3⟩ := CM_CC c1 c2
    have sS : stN S < 256 := own_lt c2 (-1)
    have q5 : hr s2 0 5 = 31 := (hr_eq (d3 0 5 (by decide))).trans h31'
    have q2 : hr s2 0 2 = 17 := (hr_eq (d3 0 2 (by decide))).trans h02
    have q1 : hr s2 31 s = 33 + 2 * s := (hr_eq (d3 31 s (by decide))).trans p1.1
    have q3 : hr s2 (33 + 2 * s) 2 = 34 + 2 * s := (hr_eq (d3 _ 2 (by omega))).trans p1.2
    have v0 : hv s2 (33 + 2 * s) 0 = C s := (hv_eq (d3 _ 0 (by omega))).trans p2
    have v1 : hv s2 (33 + 2 * s) 1 = Z s := (hv_eq (d3 _ 1 (by omega))).trans (p3 b2).1
    have vE : hJ s2 (34 + 2 * s) j = E s j := (hJ_eq (d3 _ j (by omega))).trans ((p3 b2).2 j (by omega))
    have sl : F_X0_slipAt s2 (33 + 2 * s) (nI j) = slA (E s j) := by
      have := slipAt_eq (h' := s2) (s := s) (m := nI j) q3 (by rw [v0]; exact b2) (by rw [v1, nI_t (by omega)]; omega) (by rw [v1]; exact b3.2)
      rw [nI_c (by omega), vE] at this
      exact this
    have rE : hJ t2 (54 + s) j = E s j := (hJ_eq (c6 _ j (by omega) (fun d hd => by omega))).trans (b6 j (by omega))
    have r9 : hv t2 49 9 = S 0 0 := (hv_eq (c6 49 9 (by decide) (fun d hd => by omega))).trans (n9.trans c3.symm)
    obtain ⟨g1, g2⟩ := slA_draw c2 (E s j)
    have cd := c_canDraw d1 (slA (E s j))
    rw [d2] at cd
    have zj : nI j < m := (mlt j (by omega)).mpr hj
    have rd := r_canDraw c4 (Int64.toInt32 (E s j))
    rw [c5] at rd
    have rd : F_X5_canDraw_6 t2 p (Int64.toInt32 (E s j)) = if drawB S (Int64.toInt32 (E s j)) then 1 else 0 := rd
    unfold B_X4_firstWrong_14 B_X5_wrongInA_13
    simp only [letf]
    rw [if_pos zj, if_pos zj, shelf_eq, if_neg wa, q5, q2, es, q1, sl, cd, nI_c (by omega), rE, r9]
    by_cases i : F_X5_in (E s j) (1 : Int64) (Int32.toInt64 (S 0 0)) = 0
    · rw [if_pos i, g1 i, if_neg nff, if_pos rfl]
      exact Or.inl ⟨_, _, rfl, rfl, rfl, S, c1, c2, c4, c6, c7, c8⟩
    · obtain ⟨g3, g4⟩ := g2 i
      rw [if_neg i, rd, g3]
      cases dB : drawB S (Int64.toInt32 (E s j)) with
      | false =>
        rw [if_neg nff, if_pos rfl, if_pos rfl]
        exact Or.inl ⟨_, _, rfl, rfl, rfl, S, c1, c2, c4, c6, c7, c8⟩
      | true =>
        rw [if_pos rfl, if_neg t10, if_neg t10]
        have m1 := cm_draw c1 c2 (b := 0) g4
        have rm := RM_of c4
        rw [c5] at rm
        obtain ⟨w1, w2⟩ := rm_draw rm c2 (b := 0) g4
        have w1 : (F_X5_comesOut_6 t2 p (Int64.toInt32 (E s j)) 0).1 = nI (winsN S (Int64.toInt32 (E s j))) := w1
        have w2 : RM Tv p t2 (drawS S (Int64.toInt32 (E s j)) 0) (F_X5_comesOut_6 t2 p (Int64.toInt32 (E s j)) 0).2 := w2
        have wf' : WF (drawS S (Int64.toInt32 (E s j)) 0) := WF_draw4 c2 g4 (by decide)
        obtain ⟨k1, k2, k3⟩ := RM_RC w2 wf'
        have t49 : Tv[49]? = some 5 := ce _ _ rfl
        have g40 := k_int k1.1 t49 (i := 40) (by decide) rfl
        have kp := k_put k1.1 t49 (i := 40) rfl (nI (sDiff (stN N) (stN S)) ||| nI (winsN S (Int64.toInt32 (E s j))))
        obtain ⟨k4, k5⟩ := RC_same k1 kp (tExt_rf Tv) (fun d i hd => hget_put_ne (Or.inl (by omega)))
        have u3 := winsN_lt c2 (Int64.toInt32 (E s j))
        have u2 := wins_sub c2 (Int64.toInt32 (E s j))
        have u1 := st_draw c2 (x := Int64.toInt32 (E s j)) (b := 0) (by decide)
        rw [c7, w1, nI_s]
        refine Or.inr ⟨_, _, rfl, rfl, rfl, rfl, drawS S (Int64.toInt32 (E s j)) 0, m1, wf', (drawS_0 (by decide)).trans c3, k4, k5.trans k2, fun q i y1 y2 => ?_, ?_, ?_⟩
        · rw [hget_put_ne (by omega), sQ_out k3 y2]
          exact c6 q i y1 y2
        · rw [hv_put g40, s_or (sDiff_lt _ _) u3, u1, sDiff_or u3 c8 u2]
        · rw [u1]
          exact sub_diff c8
  · show hv t0 49 40 = _
    rw [e40, sDiff_self]
    rfl
end
