section
variable {T T2 : List Nat} {h h2 h' h2' : zH} {N N' S : ST} {K : Option ST} {C Z : Nat → Int32} {E : Nat → Nat → Int64} {n : Nat} {B R : Nat → Int32}
/-- a go in truth, paid, on the reference -/
theorem rm_goesOne (m : RM T 49 h S h') (w : WF S) {b : Int32} (hb : isB S b) (hd : drN S ≠ 0) (hp : (S 0 2).toInt ≤ (S 7 b.toNatClampNeg).toInt) : F_X5_goesOne h' 49 b = (slpS (payS S b (S 0 2)), (F_X5_goesOne h' 49 b).2) ∧ RM T 49 h (nxt (payS S b (S 0 2)) b) (F_X5_goesOne h' 49 b).2 := by
  have bc := (isB_c hb).1
  have b4 := nB_4 w
  have pr := w.1.2.2.1
  have m1 := rm_pay m w hb (S 0 2)
  rw [rm_a7 m bc] at m1
  have m0 := rm_w7 m (S 7 b.toNatClampNeg - S 0 2) (by omega) bc
  have w1 : WF (payS S b (S 0 2)) := WF_pay w (by omega) hp
  have d1 : drN (payS S b (S 0 2)) ≠ 0 := by
    rw [drN_congr (eqD_pay S b (S 0 2))]
    exact hd
  obtain ⟨q1, q2, q3⟩ := rm_nxt m1 w1 d1 (b := b) hb
  have e : F_X5_goesOne h' 49 b = (slpS (payS S b (S 0 2)), (F_X5_comesOut (F_X5_drawn (hput (hput h' (hr h' 49 24) b.toNatClampNeg (.inl (.int (S 7 b.toNatClampNeg - S 0 2)))) 49 14 (.inl (.int (S 0 5 + S 0 2)))) 49).2 49 (slpS (payS S b (S 0 2))) b).2) := by
    have e5 : hv (hput h' (hr h' 49 24) b.toNatClampNeg (.inl (.int (S 7 b.toNatClampNeg - S 0 2)))) 49 14 = S 0 5 := by
      have q := rm_n5 m0
      exact q
    have e2 : hv (hput h' (hr h' 49 24) b.toNatClampNeg (.inl (.int (S 7 b.toNatClampNeg - S 0 2)))) 49 11 = S 0 2 := by
      have q := rm_n2 m0
      exact q
    unfold F_X5_goesOne
    simp only [letf]
    rw [rm_a7 m bc, rm_n2 m, e5, e2, q1]
  rw [e]
  exact ⟨rfl, q3⟩
theorem pay_nT (S : ST) (b x : Int32) : nT (payS S b x) = nT S := rfl
theorem fet_nT (S : ST) (l : Int32) : nT (fetS S l) = nT S := (ftw_nT (ft0 S) l (nT S)).trans rfl
theorem own_nxt {S : ST} (w : ownS S) {b : Int32} (hb : isB S b) : ownS (nxt S b) := fun t ht hn => by
  rw [nxt_nT] at ht
  have e6 : nxt S b 6 t = if t < nT (sdS S) ∧ nb (winsN (sdS S) (slpS S)) t ≠ 0 then b else sdS S 6 t := drawS_6 t
  have e8 : nxt S b 0 8 = S 0 8 := (drawS_0 (by decide)).trans rfl
  rw [e6] at hn ⊢
  unfold isB
  rw [e8]
  by_cases y : t < nT (sdS S) ∧ nb (winsN (sdS S) (slpS S)) t ≠ 0
  · rw [if_pos y]
    exact hb
  · rw [if_neg y] at hn ⊢
    exact w t ht hn
theorem own_pay {S : ST} (w : ownS S) (b x : Int32) : ownS (payS S b x) := own_same w (fun _ => rfl) rfl rfl
theorem m_go (H : HY T T2 h h2 N K C Z E n B R) (a : Int32) : PR h h2 (F_X4_go h 0 a) (F_X5_go h2 49 a) := by
  have wf := hw H
  have db := drN_b wf
  have dz : iZ (drN N) = 0 ↔ drN N = 0 := by
    rw [i_eq, iZ_t (by omega) (by omega), e0]
  unfold F_X4_go F_X5_go
  simp only [letf]
  rw [hc0 H, hcB H, hrB H, cm_n2 (hcm H), rm_n2 (hrm H), (h_many H).1, (h_many H).2]
  by_cases b : isB N a
  · have bc := (isB_c b).1
    rw [if_pos b, if_neg t10, if_neg t10, cm_a7 (hcm H) bc, rm_a7 (hrm H) bc]
    by_cases p : N 7 a.toNatClampNeg < N 0 2
    · rw [if_pos p, if_pos p]
      exact pr3 H
    · rw [if_neg p, if_neg p]
      by_cases d : drN N = 0
      · rw [if_pos (dz.mpr d), if_pos (dz.mpr d)]
        exact pr3 H
      · rw [if_neg (fun y => d (dz.mp y)), if_neg (fun y => d (dz.mp y))]
        have hp : (N 0 2).toInt ≤ (N 7 a.toNatClampNeg).toInt := by
          rw [i_lt] at p
          omega
        have pr := wf.1.2.2.1
        have w1 : WF (payS N a (N 0 2)) := WF_pay wf (by omega) hp
        have d1 : drN (payS N a (N 0 2)) ≠ 0 := by
          rw [drN_congr (eqD_pay N a (N 0 2))]
          exact d
        have m1 := cm_pay (hcm H) wf b (N 0 2)
        obtain ⟨q1, q2, q3⟩ := cm_nxt m1 w1 d1 (b := a) b
        obtain ⟨q4, q5⟩ := rm_goesOne (hrm H) wf b d hp
        rw [cm_c0 m1 0, hc0 H, cm_c0 q2 0, hc0 H, q1, q4]
        exact pr_now H _ q3 q5 (nxt_WF w1 d1 b) (Nat.le_of_eq (nxt_nT.trans (pay_nT N a (N 0 2))).symm) (own_nxt (own_pay (hO H) a (N 0 2)) b)
  · rw [if_neg b, if_pos rfl, if_pos rfl]
    exact pr0 H
theorem m_fete (H : HY T T2 h h2 N K C Z E n B R) (a : Int32) : PR h h2 (F_X4_fete h 0 a) (F_X5_fete h2 49 a) := by
  have wf := hw H
  unfold F_X4_fete F_X5_fete
  simp only [letf]
  rw [pair_in (a := a) (lo := 0) (hi := 1000) (by decide) (by decide), hc0 H]
  by_cases w : F_X4_isWithin a 0 1000 = 0
  · rw [if_pos w, if_pos w]
    exact pr0 H
  · rw [if_neg w, if_neg w]
    obtain ⟨q1, q2⟩ := cm_fete (hcm H) wf (hO H) a
    obtain ⟨q3, q4⟩ := rm_fete (hrm H) wf (hO H) a
    rw [q1]
    have e : fx (B_X5_fete_21 49 a) (0, []) ((0 : Int32), h2) = (nI (fetC N a), (fx (B_X5_fete_21 49 a) (0, []) ((0 : Int32), h2)).2) := by
      rw [← q3]
    rw [e]
    exact pr_now H _ q2 q4 (WF_fet wf a) (Nat.le_of_eq (fet_nT N a).symm) (own_fet (hO H) a)
end
