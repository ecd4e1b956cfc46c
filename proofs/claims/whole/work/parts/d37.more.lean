theorem sure_pos : ∀ m : Nat, m < 61 → 1 ≤ m → ∀ k : Nat, k ≤ m → (0 : Int32) < (2 : Int32) * nI m - nI k := fun m h1 h2 k h3 => by
  have a : ((2 : Int32) * nI m).toInt = 2 * (m : Int) := by
    rw [t_mul (by rw [show (2 : Int32).toInt = 2 from rfl, nI_t (by omega)]; omega) (by rw [show (2 : Int32).toInt = 2 from rfl, nI_t (by omega)]; omega), show (2 : Int32).toInt = 2 from rfl, nI_t (by omega)]
  rw [i_lt, e0, i_isub (by rw [a, nI_t (by omega)]; omega) (by rw [a, nI_t (by omega)]; omega), a, nI_t (by omega)]
  omega
theorem sure_eq {m k : Int32} (hm : 1 ≤ m.toInt ∧ m.toInt ≤ 60) (hk : 0 ≤ k.toInt ∧ k.toInt ≤ m.toInt) : F_X4_sureness m k = F_X5_suspected m k := by
  have em := nI_back (x := m) (by omega)
  have ek := nI_back (x := k) hk.1
  have cm := clamp_i (x := m) (by omega)
  have ck := clamp_i (x := k) hk.1
  have := sure_pos m.toNatClampNeg (by omega) (by omega) k.toNatClampNeg (by omega)
  rw [← em, ← ek] at this
  unfold F_X4_sureness F_X5_suspected
  exact if_pos this
theorem sure_top : ∀ m : Nat, m < 61 → 1 ≤ m → F_X5_suspected (nI m) (nI m) = 1000000 := by
  have key : ∀ m : Nat, m < 61 → 1 ≤ m → ((1000000 : Int32) * nI m) / ((2 : Int32) * nI m - nI m) = 1000000 := by decide +kernel
  exact key
theorem lt_n8 {S : ST} (w : WF S) : S 0 7 < (8 : Int32) ↔ nT S < 8 := by
  have n8 := nT_8 w
  have e8 : (8 : Int32) = nI 8 := rfl
  rw [e8, i_lt, nI_t (by omega)]
  have := nT_i w
  omega
theorem eq_n8 {S : ST} (w : WF S) : S 0 7 = (8 : Int32) ↔ nT S = 8 := by
  have n8 := nT_8 w
  have e8 : (8 : Int32) = nI 8 := rfl
  rw [e8, i_eq, nI_t (by omega)]
  have := nT_i w
  omega
section
variable {T T2 : List Nat} {h h2 h' h2' : zH} {N N' S : ST} {K : Option ST} {C Z : Nat → Int32} {E : Nat → Nat → Int64} {n : Nat} {B R : Nat → Int32}
theorem pr_far (H : HY T T2 h h2 N K C Z E n B R) : PR h h2 ((-10000000 : Int32) + (F_X4_refuse h 0 (-2 : Int32)).1, (F_X4_refuse h 0 (-2 : Int32)).2) ((-10000000 : Int32) + (F_X5_refuse h2 49 (-2 : Int32)).1, (F_X5_refuse h2 49 (-2 : Int32)).2) := by
  obtain ⟨a1, a2, a3⟩ := c_rf0 H.1 H.2.1
  obtain ⟨b1, b2, b3⟩ := r_rf0 H.2.2.1 H.2.2.2.1
  exact ⟨(-10000000 : Int32) + (-2), _, _, _, _, _, _, _, _, ⟨congrArg ((-10000000 : Int32) + ·) a1, a2, a3⟩, ⟨congrArg ((-10000000 : Int32) + ·) b1, b2, b3⟩, H.2.2.2.2⟩
theorem m_all (H : HY T T2 h h2 N K C Z E n B R) (a : Int32) : PR h h2 (F_X4_all h 0 a) (F_X5_all h2 49 a) := by
  have wf := hw H
  unfold F_X4_all F_X5_all
  simp only [letf]
  rw [hc0 H, hcB H, hrB H]
  by_cases b : isB N a
  · rw [if_pos b, if_neg t10, if_neg t10, (h_std H).1, (h_std H).2, (h_lkAll H b (show stN N < 256 from own_lt wf (-1))).1, (h_lkAll H b (show stN N < 256 from own_lt wf (-1))).2, (h_in H).1, (h_in H).2, cm_n2 (hcm H), rm_n2 (hrm H)]
    exact pr_same H _
  · rw [if_neg b, if_pos rfl, if_pos rfl]
    exact pr_far H
theorem m_suspect (H : HY T T2 h h2 N K C Z E n B R) (a k : Int32) : PR h h2 (F_X4_suspect h 0 a k) (F_X5_suspect h2 49 a k) := by
  unfold F_X4_suspect F_X5_suspect
  simp only [letf]
  rw [pair_in (a := a) (lo := 1) (hi := 60) (by decide) (by decide), pair_in (a := k) (lo := 0) (hi := a) (by decide) (i2l a)]
  by_cases w : F_X4_isWithin a 1 60 = 0
  · rw [if_pos w, if_pos w]
    exact pr0 H
  · rw [if_neg w, if_neg w]
    by_cases v : F_X4_isWithin k 0 a = 0
    · rw [if_pos v, if_pos v]
      exact pr0 H
    · rw [if_neg v, if_neg v]
      have w' := win w
      have w' : 1 ≤ a.toInt ∧ a.toInt ≤ 60 := w'
      have v' := win v
      have v' : 0 ≤ k.toInt ∧ k.toInt ≤ a.toInt := v'
      rw [sure_eq w' v']
      exact pr_same H _
theorem m_sure (H : HY T T2 h h2 N K C Z E n B R) (a f : Int32) : PR h h2 (F_X4_sure h 0 a f) (F_X5_sure h2 49 a f) := by
  unfold F_X4_sure F_X5_sure
  simp only [letf]
  rw [pair_in (a := a) (lo := 1) (hi := 60) (by decide) (by decide), pair_in (a := f) (lo := 0) (hi := 1000000) (by decide) (by decide)]
  by_cases w : F_X4_isWithin a 1 60 = 0
  · rw [if_pos w, if_pos w]
    exact pr0 H
  · rw [if_neg w, if_neg w]
    by_cases v : F_X4_isWithin f 0 1000000 = 0
    · rw [if_pos v, if_pos v]
      exact pr0 H
    · rw [if_neg v, if_neg v]
      have w' := win w
      have w' : 1 ≤ a.toInt ∧ a.toInt ≤ 60 := w'
      have v' : f.toInt ≤ (1000000 : Int32).toInt := (win v).2
      have em := nI_back (x := a) (by omega)
      have ca := clamp_i (x := a) (by omega)
      generalize a.toNatClampNeg = m at em ca
      subst em
      have m61 : m < 61 := by omega
      have m1 : 1 ≤ m := by omega
      clear ca w w'
      have hnot : ¬ (1000000 : Int32) < f := fun y => absurd (i_lt.mp y) (Int.not_lt.mpr v')
      clear v' v
      refine fx_sim (F := B_X4_sure_29 h 0 (nI m) f) (G := B_X5_sure_33 h2 49 (nI m) f) (fun j (s t : Int32) => s = t ∧ s = nI j) (fun r k => PR h h2 r k) m (fun s t hi => ?_) (fun j s t hj hi => ?_) ⟨rfl, rfl⟩
      · obtain ⟨rfl, rfl⟩ := hi
        refine ⟨_, _, ?_, ?_, pr_same H (nI m)⟩
        · unfold B_X4_sure_29
          exact if_neg (fun y => absurd (i_lt.mp y) (Int.lt_irrefl _))
        · unfold B_X5_sure_33
          simp only [letf]
          rw [sure_top m m61 m1, if_neg hnot]
      · obtain ⟨rfl, rfl⟩ := hi
        have eq := sure_eq (m := nI m) (k := nI j) (by rw [nI_t (by omega)]; omega) (by rw [nI_t (by omega), nI_t (by omega)]; omega)
        unfold B_X4_sure_29 B_X5_sure_33
        simp only [letf]
        rw [if_pos (show nI j < nI m by rw [i_lt, nI_t (by omega), nI_t (by omega)]; omega), eq, nI_s]
        by_cases y : F_X5_suspected (nI m) (nI j) < f
        · rw [if_pos y, if_pos y]
          exact Or.inr ⟨_, _, rfl, rfl, rfl, rfl⟩
        · rw [if_neg y, if_neg y]
          exact Or.inl ⟨_, _, rfl, rfl, pr_same H _⟩
theorem h_free (H : HY T T2 h h2 N K C Z E n B R) {s : Int32} (b : isS N s) : F_X1_isFreeForThing h 1 s = if N 1 s.toNatClampNeg = 1 ∧ thOn N s = -1 then 1 else 0 := by
  unfold F_X1_isFreeForThing
  simp only [letf]
  rw [(h_isIn H b).1, (h_thOn H s).1]
  rcases (hw H).2.1 s.toNatClampNeg with z | z
  · rw [z, if_pos rfl, if_neg (fun y => absurd y.1 (by decide))]
  · rw [z, if_neg t10]
    by_cases t : thOn N s = -1
    · rw [if_pos t, if_pos ⟨rfl, t⟩]
    · rw [if_neg t, if_neg (fun y => t y.2)]
theorem h_rwin (H : HY T T2 h h2 N K C Z E n B R) (s : Int32) : F_X5_isWinner h2 49 s = if isS N s ∧ jrem s (N 0 1) = 0 then 1 else 0 := by
  unfold F_X5_isWinner
  simp only [letf]
  rw [hrS H, rm_n1 (hrm H)]
  by_cases b : isS N s
  · rw [if_pos b, if_neg t10]
    by_cases j : jrem s (N 0 1) = 0
    · rw [if_pos j, if_pos ⟨b, j⟩]
    · rw [if_neg j, if_neg (fun y => j y.2)]
  · rw [if_neg b, if_pos rfl, if_neg (fun y => b y.1)]
theorem h_out (H : HY T T2 h h2 N K C Z E n B R) {s : Int32} (b : isS N s) : hv h2 (hr h2 49 16) s.toNatClampNeg = 0 ↔ N 1 s.toNatClampNeg = 1 := by
  have hi := (h_isIn H b).2
  have bt := (hrc H).2.2.2 s.toNatClampNeg (by have := isS_c b; have := nS_60 (hw H); omega)
  rw [← rl16 (hrc H).2.1] at bt
  rcases bt with y | y
  · rw [y] at hi
    rw [y, ← hi]
    exact ⟨fun _ => by decide, fun _ => rfl⟩
  · rw [y] at hi
    rw [y, ← hi]
    exact ⟨fun z => absurd z (by decide), fun z => absurd z (by decide)⟩
theorem m_thing (H : HY T T2 h h2 N K C Z E n B R) (k s a : Int32) : PR h h2 (F_X4_thing h 0 k s a) (F_X5_thing h2 49 k s a) := by
  have wf := hw H
  have n8 := nT_8 wf
  have lt8 : N 0 7 < (8 : Int32) ↔ nT N < 8 := lt_n8 wf
  have eq8 : N 0 7 = (8 : Int32) ↔ nT N = 8 := eq_n8 wf
  unfold F_X4_thing F_X5_thing
  simp only [letf]
  rw [pair_in (a := k) (lo := 0) (hi := 5) (by decide) (by decide), pair_in (a := a) (lo := 0) (hi := 9) (by decide) (by decide), hc0 H, hcS H, h_win H, h_rwin H, (h_thOn H s).2, cm_n7 (hcm H), rm_n7 (hrm H)]
  by_cases w : F_X4_isWithin k 0 5 = 0
  · rw [if_pos w, if_pos w]
    exact pr0 H
  · rw [if_neg w, if_neg w]
    by_cases b : isS N s
    · rw [if_pos b, if_neg t10, h_free H b]
      by_cases j : jrem s (N 0 1) = 0
      · rw [if_pos j, if_neg t10, if_pos (⟨b, j⟩ : isS N s ∧ jrem s (N 0 1) = 0), if_neg t10]
        by_cases v : F_X4_isWithin a 0 9 = 0
        · rw [if_pos v, if_pos v]
          exact pr0 H
        · rw [if_neg v, if_neg v]
          by_cases z : N 1 s.toNatClampNeg = 1
          · rw [if_pos ((h_out H b).mpr z)]
            by_cases t : thOn N s = -1
            · rw [if_pos (⟨z, t⟩ : N 1 s.toNatClampNeg = 1 ∧ thOn N s = -1), if_neg t10, if_pos t]
              by_cases f : nT N < 8
              · rw [if_pos (lt8.mpr f), if_neg (fun y => by have := eq8.mp y; omega)]
                obtain ⟨q1, q2⟩ := cm_addT (hcm H) wf f k s a
                have q3 := rm_addT (hrm H) wf f k s a
                have q4 : hv (F_X5_addThing h2 49 k s a) 49 17 - (1 : Int32) = N 0 7 := by
                  rw [rm_n7 q3]
                  show N 0 7 + 1 - 1 = N 0 7
                  exact Int32.add_sub_cancel _ _
                have hfree : ∀ u, u < nT N → N 3 u ≠ s := by
                  rcases thOn_cases N s with y | ⟨u, hu, hu2, -⟩
                  · exact y.2
                  · rw [t] at hu2
                    exact absurd hu2.symm (nm1 u (by omega))
                have cs := clamp_s (x := N 0 7) (WF_th wf).1 (by have := WF_th wf; omega)
                rw [q1, q4]
                exact pr_now H _ q2 q3 (WF_addT wf f (win w) b (win v) z hfree) (by
                  have : nT (adT N k s a) = nT N + 1 := cs.2
                  omega) (own_adT (hO H) wf cs.2)
              · rw [if_neg (fun y => f (lt8.mp y)), if_pos (eq8.mpr (by omega))]
                exact pr4 H
            · rw [if_neg (show ¬ (N 1 s.toNatClampNeg = 1 ∧ thOn N s = -1) from fun y => t y.2), if_pos (rfl : (0 : Int32) = 0), if_neg t]
              exact pr3 H
          · rw [if_neg (show ¬ (N 1 s.toNatClampNeg = 1 ∧ thOn N s = -1) from fun y => z y.1), if_pos (rfl : (0 : Int32) = 0), if_neg (show ¬ hv h2 (hr h2 49 16) s.toNatClampNeg = 0 from fun y => z ((h_out H b).mp y))]
            exact pr3 H
      · rw [if_neg j, if_pos (rfl : (0 : Int32) = 0), if_neg (show ¬ (isS N s ∧ jrem s (N 0 1) = 0) from fun y => j y.2), if_pos (rfl : (0 : Int32) = 0), ite_self]
        exact pr0 H
    · rw [if_neg b, if_pos (rfl : (0 : Int32) = 0), if_neg (show ¬ (isS N s ∧ jrem s (N 0 1) = 0) from fun y => b y.1), if_pos (rfl : (0 : Int32) = 0), ite_self]
      exact pr0 H
end
