section
variable {T T2 : List Nat} {h h' h'' k0 k' : zH} {B : Nat → Int32} {n e nt : Nat} {S S' : ST} {D : Nat → Int32}
/-- a word both see, or neither -/
def AB (h' k' : zH) (w : Nat) (p : Prop) : Prop := (p → F_X2_isWord h' 29 w = 1 ∧ F_X5_isWord k' 49 w = 1) ∧ (¬ p → F_X2_isWord h' 29 w = 0 ∧ F_X5_isWord k' 49 w = 0)
theorem ab_of (c : CP T h B n S e h') (q : RP T2 k0 B n S e D k') {w j : Nat} (hw : w = 1000000 + j) (hj : j < 8) : AB h' k' w (isW B n e (1000000 + j)) := by
  subst hw
  constructor
  · intro y
    rcases cp_word c hj with ⟨a, b⟩ | ⟨a, b⟩
    · rcases rp_word q hj with ⟨a2, b2⟩ | ⟨a2, b2⟩
      · exact ⟨a, a2⟩
      · exact absurd y b2
    · exact absurd y b
  · intro y
    rcases cp_word c hj with ⟨a, b⟩ | ⟨a, b⟩
    · exact absurd b y
    · rcases rp_word q hj with ⟨a2, b2⟩ | ⟨a2, b2⟩
      · exact absurd b2 y
      · exact ⟨a, a2⟩
theorem ab_all (c : CP T h B n S e h') (q : RP T2 k0 B n S e D k') : ∃ P : Nat → Prop, (∀ i j, i < 7 → j < 7 → P i → P j → i = j) ∧ (∀ j, P j → lxK B n e = 1) ∧ AB h' k' 1000000 (P 0) ∧ AB h' k' 1000001 (P 1) ∧ AB h' k' 1000002 (P 2) ∧ AB h' k' 1000003 (P 3) ∧ AB h' k' 1000004 (P 4) ∧ AB h' k' 1000005 (P 5) ∧ AB h' k' 1000006 (P 6) :=
  ⟨fun j => isW B n e (1000000 + j), fun _ _ hi hj a b => isW_one hi hj a b, fun _ a => isW_1 a, ab_of c q (Nat.eq_of_beq_eq_true rfl) (by decide), ab_of c q (Nat.eq_of_beq_eq_true rfl) (by decide), ab_of c q (Nat.eq_of_beq_eq_true rfl) (by decide), ab_of c q (Nat.eq_of_beq_eq_true rfl) (by decide), ab_of c q (Nat.eq_of_beq_eq_true rfl) (by decide), ab_of c q (Nat.eq_of_beq_eq_true rfl) (by decide), ab_of c q (Nat.eq_of_beq_eq_true rfl) (by decide)⟩
theorem sm_norm {r k : Int32 × zH} (s : SM T T2 h k0 B n nt e r k) : SM T T2 h k0 B n nt e (if r.1 = (0 : Int32) then ((0 : Int32), r.2) else ((1 : Int32), r.2)) k := by
  obtain ⟨r1, r2⟩ := r
  rcases s with ⟨a, b⟩ | ⟨a, b⟩
  · have a : r1 = 0 := a
    subst a
    rw [if_pos rfl]
    exact Or.inl ⟨rfl, b⟩
  · have a : r1 = 1 := a
    subst a
    rw [if_neg t10]
    exact Or.inr ⟨rfl, b⟩
theorem st_166 (b5 : F_X5_isWord k' 49 1000005 = 0) (b6 : F_X5_isWord k' 49 1000006 = 0) : J_X5_statement_j166 k' 49 = ((F_X5_wrong k' 49).1, (F_X5_wrong k' 49).2) := by
  unfold J_X5_statement_j166 J_X5_statement_j264
  simp only [letf]
  rw [b5, if_pos rfl, b6, if_pos rfl]
theorem st_124 (b4 : F_X5_isWord k' 49 1000004 = 0) (b5 : F_X5_isWord k' 49 1000005 = 0) (b6 : F_X5_isWord k' 49 1000006 = 0) : J_X5_statement_j124 k' 49 = ((F_X5_wrong k' 49).1, (F_X5_wrong k' 49).2) := by
  rw [← st_166 b5 b6]
  unfold J_X5_statement_j124
  simp only [letf]
  rw [b4, if_pos rfl]
theorem st_87 (b2 : F_X5_isWord k' 49 1000002 = 0) (b3 : F_X5_isWord k' 49 1000003 = 0) (b4 : F_X5_isWord k' 49 1000004 = 0) (b5 : F_X5_isWord k' 49 1000005 = 0) (b6 : F_X5_isWord k' 49 1000006 = 0) : J_X5_statement_j87 k' 49 = ((F_X5_wrong k' 49).1, (F_X5_wrong k' 49).2) := by
  rw [← st_124 b4 b5 b6]
  unfold J_X5_statement_j87
  simp only [letf]
  rw [b2, if_pos rfl, b3, if_pos rfl]
theorem st_40 (b1 : F_X5_isWord k' 49 1000001 = 0) (b2 : F_X5_isWord k' 49 1000002 = 0) (b3 : F_X5_isWord k' 49 1000003 = 0) (b4 : F_X5_isWord k' 49 1000004 = 0) (b5 : F_X5_isWord k' 49 1000005 = 0) (b6 : F_X5_isWord k' 49 1000006 = 0) : J_X5_statement_j40 k' 49 = ((F_X5_wrong k' 49).1, (F_X5_wrong k' 49).2) := by
  rw [← st_87 b2 b3 b4 b5 b6]
  unfold J_X5_statement_j40
  simp only [letf]
  rw [b1, if_pos rfl]
theorem s_state (c : CP T h B n S e h') (q : RP T2 k0 B n S e D k') (o : ownS S) (t : nt ≤ nT S) : SM T T2 h k0 B n nt e (F_X2_readStatement h' 29 17) (F_X5_statement k' 49) := by
  have w := cp_w c
  have ni := nT_i w
  have bi := nB_i w
  obtain ⟨P, p1, p2, a0, a1, a2, a3, a4, a5, a6⟩ := ab_all c q
  obtain ⟨r, rw1, rw2⟩ := r_wr q
  have bad : SM T T2 h k0 B n nt e (0, h') ((F_X5_wrong k' 49).1, (F_X5_wrong k' 49).2) := by
    rw [rw1]
    exact sm_bad c rw2
  have z7 : hv k' 49 17 = (0 : Int32) ↔ nT S = 0 := by
    rw [rm_n7 (rq_m q.1), i_eq, e0]
    omega
  have l7 : hv k' 49 17 < (8 : Int32) ↔ nT S < 8 := by
    rw [rm_n7 (rq_m q.1), i_lt, show (8 : Int32).toInt = 8 from rfl]
    omega
  have l4 : hv k' 49 23 < (4 : Int32) ↔ nB S < 4 := by
    rw [rm_n8 (rq_m q.1), i_lt, show (4 : Int32).toInt = 4 from rfl]
    omega
  unfold F_X2_readStatement F_X5_statement
  simp only [letf]
  by_cases y0 : P 0
  · obtain ⟨c0, b0⟩ := a0.1 y0
    obtain ⟨-, b1⟩ := a1.2 (fun z => absurd (p1 0 1 (by decide) (by decide) y0 z) (by decide))
    obtain ⟨-, b2⟩ := a2.2 (fun z => absurd (p1 0 2 (by decide) (by decide) y0 z) (by decide))
    obtain ⟨-, b3⟩ := a3.2 (fun z => absurd (p1 0 3 (by decide) (by decide) y0 z) (by decide))
    obtain ⟨-, b4⟩ := a4.2 (fun z => absurd (p1 0 4 (by decide) (by decide) y0 z) (by decide))
    obtain ⟨-, b5⟩ := a5.2 (fun z => absurd (p1 0 5 (by decide) (by decide) y0 z) (by decide))
    obtain ⟨-, b6⟩ := a6.2 (fun z => absurd (p1 0 6 (by decide) (by decide) y0 z) (by decide))
    rw [c0, if_neg t10, b0, if_neg t10]
    by_cases z : nT S = 0
    · rw [if_pos (z7.mpr z)]
      exact s_slips c q o t (p2 _ y0) z
    · rw [if_neg (fun x => z (z7.mp x)), st_40 b1 b2 b3 b4 b5 b6]
      have e : F_X2_readSlips h' 29 17 = (0, h') := by
        unfold F_X2_readSlips
        rw [cm_n7 (cp_M c), if_pos (by rw [i_lt, e0]; omega)]
      rw [e]
      exact bad
  · obtain ⟨c0, b0⟩ := a0.2 y0
    rw [c0, if_pos (rfl : (0 : Int32) = 0), b0, if_pos (rfl : (0 : Int32) = 0)]
    by_cases y1 : P 1
    · obtain ⟨c1, b1⟩ := a1.1 y1
      obtain ⟨-, b2⟩ := a2.2 (fun z => absurd (p1 1 2 (by decide) (by decide) y1 z) (by decide))
      obtain ⟨-, b3⟩ := a3.2 (fun z => absurd (p1 1 3 (by decide) (by decide) y1 z) (by decide))
      obtain ⟨-, b4⟩ := a4.2 (fun z => absurd (p1 1 4 (by decide) (by decide) y1 z) (by decide))
      obtain ⟨-, b5⟩ := a5.2 (fun z => absurd (p1 1 5 (by decide) (by decide) y1 z) (by decide))
      obtain ⟨-, b6⟩ := a6.2 (fun z => absurd (p1 1 6 (by decide) (by decide) y1 z) (by decide))
      rw [c1, if_neg t10]
      by_cases z : nT S = 0
      · have e : J_X5_statement_j40 k' 49 = letf (F_X5_tells k' 49 (2 : Int32) (10 : Int32)) (fun y9002 => (if y9002.1 = (0 : Int32) then (J_X5_statement_j82 y9002.2 49 y9002.1 (hv y9002.2 49 10) 49) else (J_X5_statement_j82 y9002.2 49 y9002.1 (hv y9002.2 (hr y9002.2 49 33) (0 : Int32).toNatClampNeg) 49))) := by
          unfold J_X5_statement_j40
          simp only [letf]
          rw [b1, if_neg t10, if_pos (z7.mpr z)]
        rw [e]
        exact s_rule c q o t (p2 _ y1) z
      · have e2 : J_X5_statement_j40 k' 49 = J_X5_statement_j87 k' 49 := by
          unfold J_X5_statement_j40
          simp only [letf]
          rw [b1, if_neg t10, if_neg (fun x => z (z7.mp x))]
        have e : F_X2_readRule h' 29 17 = (0, h') := by
          unfold F_X2_readRule
          rw [cm_n7 (cp_M c), if_pos (by rw [i_lt, e0]; omega)]
        rw [e, e2, st_87 b2 b3 b4 b5 b6]
        exact bad
    · obtain ⟨c1, b1⟩ := a1.2 y1
      have e40 : J_X5_statement_j40 k' 49 = J_X5_statement_j87 k' 49 := by
        unfold J_X5_statement_j40
        simp only [letf]
        rw [b1, if_pos rfl]
      rw [c1, if_pos (rfl : (0 : Int32) = 0), e40]
      by_cases y2 : P 2
      · obtain ⟨c2, b2⟩ := a2.1 y2
        have e87 : J_X5_statement_j87 k' 49 = ((F_X5_priceTold k' 49).1, (F_X5_priceTold k' 49).2) := by
          unfold J_X5_statement_j87
          simp only [letf]
          rw [b2, if_neg t10]
        rw [c2, if_neg t10, e87]
        exact s_price c q o t (p2 _ y2)
      · obtain ⟨c2, b2⟩ := a2.2 y2
        rw [c2, if_pos (rfl : (0 : Int32) = 0)]
        by_cases y3 : P 3
        · obtain ⟨c3, b3⟩ := a3.1 y3
          obtain ⟨-, b4⟩ := a4.2 (fun z => absurd (p1 3 4 (by decide) (by decide) y3 z) (by decide))
          obtain ⟨-, b5⟩ := a5.2 (fun z => absurd (p1 3 5 (by decide) (by decide) y3 z) (by decide))
          obtain ⟨-, b6⟩ := a6.2 (fun z => absurd (p1 3 6 (by decide) (by decide) y3 z) (by decide))
          rw [c3, if_neg t10]
          by_cases z : nT S < 8
          · have e87 : J_X5_statement_j87 k' 49 = ((F_X5_thingTold k' 49).1, (F_X5_thingTold k' 49).2) := by
              unfold J_X5_statement_j87
              simp only [letf]
              rw [b2, if_pos (rfl : (0 : Int32) = 0), b3, if_neg t10, if_pos (l7.mpr z)]
            rw [e87]
            exact s_thing c q o t (p2 _ y3) z
          · have e87 : J_X5_statement_j87 k' 49 = J_X5_statement_j124 k' 49 := by
              unfold J_X5_statement_j87
              simp only [letf]
              rw [b2, if_pos (rfl : (0 : Int32) = 0), b3, if_neg t10, if_neg (fun x => z (l7.mp x))]
            have e : F_X2_readThing h' 29 17 = (0, h') := by
              unfold F_X2_readThing
              rw [cm_n7 (cp_M c), if_neg (by rw [i_lt, show (8 : Int32).toInt = 8 from rfl]; omega)]
            rw [e, e87, st_124 b4 b5 b6]
            exact bad
        · obtain ⟨c3, b3⟩ := a3.2 y3
          have e87 : J_X5_statement_j87 k' 49 = J_X5_statement_j124 k' 49 := by
            unfold J_X5_statement_j87
            simp only [letf]
            rw [b2, if_pos (rfl : (0 : Int32) = 0), b3, if_pos (rfl : (0 : Int32) = 0)]
          rw [c3, if_pos (rfl : (0 : Int32) = 0), e87]
          by_cases y4 : P 4
          · obtain ⟨c4, b4⟩ := a4.1 y4
            obtain ⟨-, b5⟩ := a5.2 (fun z => absurd (p1 4 5 (by decide) (by decide) y4 z) (by decide))
            obtain ⟨-, b6⟩ := a6.2 (fun z => absurd (p1 4 6 (by decide) (by decide) y4 z) (by decide))
            rw [c4, if_neg t10]
            by_cases z : nB S < 4
            · have e124 : J_X5_statement_j124 k' 49 = letf (F_X5_tells k' 49 (0 : Int32) (9999 : Int32)) (fun y17402 => (if y17402.1 = (0 : Int32) then (J_X5_statement_j164 y17402.2 49 y17402.1) else (letf (F_X5_addBuyer y17402.2 49 (hv y17402.2 (hr y17402.2 49 33) (0 : Int32).toNatClampNeg)) (fun h17404 => (J_X5_statement_j164 h17404 49 y17402.1))))) := by
                unfold J_X5_statement_j124
                simp only [letf]
                rw [b4, if_neg t10, if_pos (l4.mpr z)]
              rw [e124]
              exact s_buyer c q o t (p2 _ y4) z
            · have e124 : J_X5_statement_j124 k' 49 = J_X5_statement_j166 k' 49 := by
                unfold J_X5_statement_j124
                simp only [letf]
                rw [b4, if_neg t10, if_neg (fun x => z (l4.mp x))]
              have e : F_X2_readBuyer h' 29 17 = (0, h') := by
                unfold F_X2_readBuyer
                rw [cm_n8 (cp_M c), if_neg (by rw [i_lt, show (4 : Int32).toInt = 4 from rfl]; omega)]
              rw [e, e124, st_166 b5 b6]
              exact bad
          · obtain ⟨c4, b4⟩ := a4.2 y4
            have e124 : J_X5_statement_j124 k' 49 = J_X5_statement_j166 k' 49 := by
              unfold J_X5_statement_j124
              simp only [letf]
              rw [b4, if_pos (rfl : (0 : Int32) = 0)]
            rw [c4, if_pos (rfl : (0 : Int32) = 0), e124]
            by_cases y5 : P 5
            · obtain ⟨c5, b5⟩ := a5.1 y5
              have key := s_likes c q o t (p2 _ y5)
              unfold J_X5_statement_j166
              rw [c5, if_neg t10]
              simp only [letf] at key ⊢
              rw [b5, if_neg t10]
              exact key
            · obtain ⟨c5, b5⟩ := a5.2 y5
              rw [c5, if_pos (rfl : (0 : Int32) = 0)]
              by_cases y6 : P 6
              · obtain ⟨c6, b6⟩ := a6.1 y6
                have e166 : J_X5_statement_j166 k' 49 = ((F_X5_outTold k' 49).1, (F_X5_outTold k' 49).2) := by
                  unfold J_X5_statement_j166 J_X5_statement_j264
                  simp only [letf]
                  rw [b5, if_pos (rfl : (0 : Int32) = 0), b6, if_neg t10]
                rw [c6, if_neg t10, e166]
                exact sm_norm (s_out c q o t (p2 _ y6))
              · obtain ⟨c6, b6⟩ := a6.2 y6
                rw [c6, if_pos (rfl : (0 : Int32) = 0), st_166 b5 b6]
                exact bad
end
