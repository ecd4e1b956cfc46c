/-- the class's stall at q stands for S; what else there was at h is as it was -/
def CM (T : List Nat) (q : Nat) (h : zH) (S : ST) (h' : zH) : Prop := ∃ rd jj, CR T h' q rd jj ∧ cI rd jj ∧ mkC rd jj = S ∧ sO q 8 h h'
def RM (T : List Nat) (q : Nat) (h : zH) (S : ST) (h' : zH) : Prop := ∃ rd, RR T h' q rd ∧ rI rd ∧ mkR rd = S ∧ sQ q h h'
section
variable {T : List Nat} {h h' : zH} {q : Nat} {S : ST}
theorem CM_of (c : CC T h q) : CM T q h (cAbs h q) h := ⟨_, _, CC_CR c, CC_cI c, (CR_abs (CC_CR c)).symm, sO_r _ _ _⟩
theorem RM_of (c : RC T h q) : RM T q h (rAbs h q) h := ⟨_, RC_RR c, RC_rI c, (RR_abs (RC_RR c)).symm, sQ_r _ _⟩
theorem CM_CC (m : CM T q h S h') (w : WF S) : CC T h' q ∧ cAbs h' q = S ∧ sO q 8 h h' := by
  obtain ⟨rd, jj, c, k, rfl, s⟩ := m
  exact ⟨CR_CC c w k, CR_abs c, s⟩
theorem RM_RC (m : RM T q h S h') (w : WF S) : RC T h' q ∧ rAbs h' q = S ∧ sQ q h h' := by
  obtain ⟨rd, c, k, rfl, s⟩ := m
  exact ⟨RR_RC c w k, RR_abs c, s⟩
theorem CM_OK (m : CM T q h S h') : hOK kty T h' := by
  obtain ⟨rd, jj, c, -⟩ := m
  exact c.1
theorem RM_OK (m : RM T q h S h') : hOK kty T h' := by
  obtain ⟨rd, c, -⟩ := m
  exact c.1
theorem CM_lay (m : CM T q h S h') : CLay T h' q := by
  obtain ⟨rd, jj, c, -⟩ := m
  exact c.2.1
theorem RM_lay (m : RM T q h S h') : RLay T h' q := by
  obtain ⟨rd, c, -⟩ := m
  exact c.2.1
theorem cm_n0 (m : CM T q h S h') : hv h' q 0 = S 0 0 := by
  obtain ⟨rd, jj, c, -, rfl, -⟩ := m
  exact CR_0 c 0
theorem cm_n1 (m : CM T q h S h') : hv h' q 1 = S 0 1 := by
  obtain ⟨rd, jj, c, -, rfl, -⟩ := m
  exact CR_0 c 1
theorem cm_n2 (m : CM T q h S h') : hv h' q 2 = S 0 2 := by
  obtain ⟨rd, jj, c, -, rfl, -⟩ := m
  exact CR_0 c 2
theorem cm_n3 (m : CM T q h S h') : hv h' q 3 = S 0 3 := by
  obtain ⟨rd, jj, c, -, rfl, -⟩ := m
  exact CR_0 c 3
theorem cm_n4 (m : CM T q h S h') : hv h' q 4 = S 0 4 := by
  obtain ⟨rd, jj, c, -, rfl, -⟩ := m
  exact CR_0 c 4
theorem cm_n5 (m : CM T q h S h') : hv h' q 5 = S 0 5 := by
  obtain ⟨rd, jj, c, -, rfl, -⟩ := m
  exact CR_0 c 5
theorem cm_n6 (m : CM T q h S h') : hv h' q 6 = S 0 6 := by
  obtain ⟨rd, jj, c, -, rfl, -⟩ := m
  exact CR_0 c 6
theorem cm_n7 (m : CM T q h S h') : hv h' q 8 = S 0 7 := by
  obtain ⟨rd, jj, c, -, rfl, -⟩ := m
  exact CR_0 c 8
theorem cm_n8 (m : CM T q h S h') : hv h' q 14 = S 0 8 := by
  obtain ⟨rd, jj, c, -, rfl, -⟩ := m
  exact CR_0 c 14
theorem rm_n0 (m : RM T q h S h') : hv h' q 9 = S 0 0 := by
  obtain ⟨rd, c, -, rfl, -⟩ := m
  exact RR_0 c 9
theorem rm_n1 (m : RM T q h S h') : hv h' q 10 = S 0 1 := by
  obtain ⟨rd, c, -, rfl, -⟩ := m
  exact RR_0 c 10
theorem rm_n2 (m : RM T q h S h') : hv h' q 11 = S 0 2 := by
  obtain ⟨rd, c, -, rfl, -⟩ := m
  exact RR_0 c 11
theorem rm_n3 (m : RM T q h S h') : hv h' q 12 = S 0 3 := by
  obtain ⟨rd, c, -, rfl, -⟩ := m
  exact RR_0 c 12
theorem rm_n4 (m : RM T q h S h') : hv h' q 13 = S 0 4 := by
  obtain ⟨rd, c, -, rfl, -⟩ := m
  exact RR_0 c 13
theorem rm_n5 (m : RM T q h S h') : hv h' q 14 = S 0 5 := by
  obtain ⟨rd, c, -, rfl, -⟩ := m
  exact RR_0 c 14
theorem rm_n6 (m : RM T q h S h') : hv h' q 15 = S 0 6 := by
  obtain ⟨rd, c, -, rfl, -⟩ := m
  exact RR_0 c 15
theorem rm_n7 (m : RM T q h S h') : hv h' q 17 = S 0 7 := by
  obtain ⟨rd, c, -, rfl, -⟩ := m
  exact RR_0 c 17
theorem rm_n8 (m : RM T q h S h') : hv h' q 23 = S 0 8 := by
  obtain ⟨rd, c, -, rfl, -⟩ := m
  exact RR_0 c 23
theorem cm_a2 (m : CM T q h S h') {t : Nat} (ht : t < nT S) : hv h' (hr h' q 9) t = S 2 t := by
  obtain ⟨rd, jj, c, -, rfl, -⟩ := m
  have ht : t < (rd 0 8).toNatClampNeg := ht
  rw [cl9 c.2.1, CR_rd c]
  exact (if_pos ht).symm
theorem rm_a2 (m : RM T q h S h') {t : Nat} (ht : t < nT S) : hv h' (hr h' q 18) t = S 2 t := by
  obtain ⟨rd, c, -, rfl, -⟩ := m
  have ht : t < (rd 0 17).toNatClampNeg := ht
  rw [rl18 c.2.1, RR_rd c]
  exact (if_pos ht).symm
theorem cm_w2 (m : CM T q h S h') {t : Nat} (x : Int32) (h8 : t < 8) (ht : t < nT S) : CM T q h (uS S 2 t x) (hput h' (hr h' q 9) t (.inl (.int x))) := by
  obtain ⟨rd, jj, c, k, rfl, s⟩ := m
  rw [cl9 c.2.1]
  exact ⟨_, jj, CR_put c (Or.inr (Or.inl ⟨rfl, h8⟩)), k, mkC_r2 ht, sO_t s (sO_put (by decide))⟩
theorem rm_w2 (m : RM T q h S h') {t : Nat} (x : Int32) (h8 : t < 8) (ht : t < nT S) : RM T q h (uS S 2 t x) (hput h' (hr h' q 18) t (.inl (.int x))) := by
  obtain ⟨rd, c, k, rfl, s⟩ := m
  rw [rl18 c.2.1]
  exact ⟨_, RR_put c (Or.inr (Or.inr (Or.inl ⟨rfl, h8⟩))), k, mkR_r2 ht, sQ_t s (sQ_put (Or.inr (Or.inr (Or.inl ⟨rfl, h8⟩))))⟩
theorem cm_a3 (m : CM T q h S h') {t : Nat} (ht : t < nT S) : hv h' (hr h' q 10) t = S 3 t := by
  obtain ⟨rd, jj, c, -, rfl, -⟩ := m
  have ht : t < (rd 0 8).toNatClampNeg := ht
  rw [cl10 c.2.1, CR_rd c]
  exact (if_pos ht).symm
theorem rm_a3 (m : RM T q h S h') {t : Nat} (ht : t < nT S) : hv h' (hr h' q 19) t = S 3 t := by
  obtain ⟨rd, c, -, rfl, -⟩ := m
  have ht : t < (rd 0 17).toNatClampNeg := ht
  rw [rl19 c.2.1, RR_rd c]
  exact (if_pos ht).symm
theorem cm_w3 (m : CM T q h S h') {t : Nat} (x : Int32) (h8 : t < 8) (ht : t < nT S) : CM T q h (uS S 3 t x) (hput h' (hr h' q 10) t (.inl (.int x))) := by
  obtain ⟨rd, jj, c, k, rfl, s⟩ := m
  rw [cl10 c.2.1]
  exact ⟨_, jj, CR_put c (Or.inr (Or.inr (Or.inl ⟨rfl, h8⟩))), k, mkC_r3 ht, sO_t s (sO_put (by decide))⟩
theorem rm_w3 (m : RM T q h S h') {t : Nat} (x : Int32) (h8 : t < 8) (ht : t < nT S) : RM T q h (uS S 3 t x) (hput h' (hr h' q 19) t (.inl (.int x))) := by
  obtain ⟨rd, c, k, rfl, s⟩ := m
  rw [rl19 c.2.1]
  exact ⟨_, RR_put c (Or.inr (Or.inr (Or.inr (Or.inl ⟨rfl, h8⟩)))), k, mkR_r3 ht, sQ_t s (sQ_put (Or.inr (Or.inr (Or.inr (Or.inl ⟨rfl, h8⟩)))))⟩
theorem cm_a4 (m : CM T q h S h') {t : Nat} (ht : t < nT S) : hv h' (hr h' q 11) t = S 4 t := by
  obtain ⟨rd, jj, c, -, rfl, -⟩ := m
  have ht : t < (rd 0 8).toNatClampNeg := ht
  rw [cl11 c.2.1, CR_rd c]
  exact (if_pos ht).symm
theorem rm_a4 (m : RM T q h S h') {t : Nat} (ht : t < nT S) : hv h' (hr h' q 20) t = S 4 t := by
  obtain ⟨rd, c, -, rfl, -⟩ := m
  have ht : t < (rd 0 17).toNatClampNeg := ht
  rw [rl20 c.2.1, RR_rd c]
  exact (if_pos ht).symm
theorem cm_w4 (m : CM T q h S h') {t : Nat} (x : Int32) (h8 : t < 8) (ht : t < nT S) : CM T q h (uS S 4 t x) (hput h' (hr h' q 11) t (.inl (.int x))) := by
  obtain ⟨rd, jj, c, k, rfl, s⟩ := m
  rw [cl11 c.2.1]
  exact ⟨_, jj, CR_put c (Or.inr (Or.inr (Or.inr (Or.inl ⟨rfl, h8⟩)))), k, mkC_r4 ht, sO_t s (sO_put (by decide))⟩
theorem rm_w4 (m : RM T q h S h') {t : Nat} (x : Int32) (h8 : t < 8) (ht : t < nT S) : RM T q h (uS S 4 t x) (hput h' (hr h' q 20) t (.inl (.int x))) := by
  obtain ⟨rd, c, k, rfl, s⟩ := m
  rw [rl20 c.2.1]
  exact ⟨_, RR_put c (Or.inr (Or.inr (Or.inr (Or.inr (Or.inl ⟨rfl, h8⟩))))), k, mkR_r4 ht, sQ_t s (sQ_put (Or.inr (Or.inr (Or.inr (Or.inr (Or.inl ⟨rfl, h8⟩))))))⟩
theorem cm_a5 (m : CM T q h S h') {t : Nat} (ht : t < nT S) : hv h' (hr h' q 12) t = S 5 t := by
  obtain ⟨rd, jj, c, -, rfl, -⟩ := m
  have ht : t < (rd 0 8).toNatClampNeg := ht
  rw [cl12 c.2.1, CR_rd c]
  exact (if_pos ht).symm
theorem rm_a5 (m : RM T q h S h') {t : Nat} (ht : t < nT S) : hv h' (hr h' q 21) t = S 5 t := by
  obtain ⟨rd, c, -, rfl, -⟩ := m
  have ht : t < (rd 0 17).toNatClampNeg := ht
  rw [rl21 c.2.1, RR_rd c]
  exact (if_pos ht).symm
theorem cm_w5 (m : CM T q h S h') {t : Nat} (x : Int32) (h8 : t < 8) (ht : t < nT S) : CM T q h (uS S 5 t x) (hput h' (hr h' q 12) t (.inl (.int x))) := by
  obtain ⟨rd, jj, c, k, rfl, s⟩ := m
  rw [cl12 c.2.1]
  exact ⟨_, jj, CR_put c (Or.inr (Or.inr (Or.inr (Or.inr (Or.inl ⟨rfl, h8⟩))))), k, mkC_r5 ht, sO_t s (sO_put (by decide))⟩
theorem rm_w5 (m : RM T q h S h') {t : Nat} (x : Int32) (h8 : t < 8) (ht : t < nT S) : RM T q h (uS S 5 t x) (hput h' (hr h' q 21) t (.inl (.int x))) := by
  obtain ⟨rd, c, k, rfl, s⟩ := m
  rw [rl21 c.2.1]
  exact ⟨_, RR_put c (Or.inr (Or.inr (Or.inr (Or.inr (Or.inr (Or.inl ⟨rfl, h8⟩)))))), k, mkR_r5 ht, sQ_t s (sQ_put (Or.inr (Or.inr (Or.inr (Or.inr (Or.inr (Or.inl ⟨rfl, h8⟩)))))))⟩
theorem cm_a6 (m : CM T q h S h') {t : Nat} (ht : t < nT S) : hv h' (hr h' q 13) t = S 6 t := by
  obtain ⟨rd, jj, c, -, rfl, -⟩ := m
  have ht : t < (rd 0 8).toNatClampNeg := ht
  rw [cl13 c.2.1, CR_rd c]
  exact (if_pos ht).symm
theorem rm_a6 (m : RM T q h S h') {t : Nat} (ht : t < nT S) : hv h' (hr h' q 22) t = S 6 t := by
  obtain ⟨rd, c, -, rfl, -⟩ := m
  have ht : t < (rd 0 17).toNatClampNeg := ht
  rw [rl22 c.2.1, RR_rd c]
  exact (if_pos ht).symm
theorem cm_w6 (m : CM T q h S h') {t : Nat} (x : Int32) (h8 : t < 8) (ht : t < nT S) : CM T q h (uS S 6 t x) (hput h' (hr h' q 13) t (.inl (.int x))) := by
  obtain ⟨rd, jj, c, k, rfl, s⟩ := m
  rw [cl13 c.2.1]
  exact ⟨_, jj, CR_put c (Or.inr (Or.inr (Or.inr (Or.inr (Or.inr (Or.inl ⟨rfl, h8⟩)))))), k, mkC_r6 ht, sO_t s (sO_put (by decide))⟩
theorem rm_w6 (m : RM T q h S h') {t : Nat} (x : Int32) (h8 : t < 8) (ht : t < nT S) : RM T q h (uS S 6 t x) (hput h' (hr h' q 22) t (.inl (.int x))) := by
  obtain ⟨rd, c, k, rfl, s⟩ := m
  rw [rl22 c.2.1]
  exact ⟨_, RR_put c (Or.inr (Or.inr (Or.inr (Or.inr (Or.inr (Or.inr (Or.inl ⟨rfl, h8⟩))))))), k, mkR_r6 ht, sQ_t s (sQ_put (Or.inr (Or.inr (Or.inr (Or.inr (Or.inr (Or.inr (Or.inl ⟨rfl, h8⟩))))))))⟩
theorem cm_a7 (m : CM T q h S h') {t : Nat} (ht : t < nB S) : hv h' (hr h' q 15) t = S 7 t := by
  obtain ⟨rd, jj, c, -, rfl, -⟩ := m
  have ht : t < (rd 0 14).toNatClampNeg := ht
  rw [cl15 c.2.1, CR_rd c]
  exact (if_pos ht).symm
theorem rm_a7 (m : RM T q h S h') {t : Nat} (ht : t < nB S) : hv h' (hr h' q 24) t = S 7 t := by
  obtain ⟨rd, c, -, rfl, -⟩ := m
  have ht : t < (rd 0 23).toNatClampNeg := ht
  rw [rl24 c.2.1, RR_rd c]
  exact (if_pos ht).symm
theorem cm_w7 (m : CM T q h S h') {t : Nat} (x : Int32) (h8 : t < 4) (ht : t < nB S) : CM T q h (uS S 7 t x) (hput h' (hr h' q 15) t (.inl (.int x))) := by
  obtain ⟨rd, jj, c, k, rfl, s⟩ := m
  rw [cl15 c.2.1]
  exact ⟨_, jj, CR_put c (Or.inr (Or.inr (Or.inr (Or.inr (Or.inr (Or.inr (Or.inl ⟨rfl, h8⟩))))))), k, mkC_r7 ht, sO_t s (sO_put (by decide))⟩
theorem rm_w7 (m : RM T q h S h') {t : Nat} (x : Int32) (h8 : t < 4) (ht : t < nB S) : RM T q h (uS S 7 t x) (hput h' (hr h' q 24) t (.inl (.int x))) := by
  obtain ⟨rd, c, k, rfl, s⟩ := m
  rw [rl24 c.2.1]
  exact ⟨_, RR_put c (Or.inr (Or.inr (Or.inr (Or.inr (Or.inr (Or.inr (Or.inr (Or.inl ⟨rfl, h8⟩)))))))), k, mkR_r7 ht, sQ_t s (sQ_put (Or.inr (Or.inr (Or.inr (Or.inr (Or.inr (Or.inr (Or.inr (Or.inl ⟨rfl, h8⟩)))))))))⟩
theorem cm_p1 (m : CM T q h S h') (x : Int32) : CM T q h (uS S 0 1 x) (hput h' q 1 (.inl (.int x))) := by
  obtain ⟨rd, jj, c, k, rfl, s⟩ := m
  exact ⟨_, jj, CR_put (d := 0) c (Or.inl ⟨rfl, by decide⟩), k, mkC_num (by decide), sO_t s (sO_put (d := 0) (by decide))⟩
theorem rm_p1 (m : RM T q h S h') (x : Int32) : RM T q h (uS S 0 1 x) (hput h' q 10 (.inl (.int x))) := by
  obtain ⟨rd, c, k, rfl, s⟩ := m
  exact ⟨_, RR_put (d := 0) c (Or.inl ⟨rfl, by decide⟩), k, mkR_num (by decide), sQ_t s (sQ_put (d := 0) (Or.inl ⟨rfl, by decide⟩))⟩
theorem cm_p2 (m : CM T q h S h') (x : Int32) : CM T q h (uS S 0 2 x) (hput h' q 2 (.inl (.int x))) := by
  obtain ⟨rd, jj, c, k, rfl, s⟩ := m
  exact ⟨_, jj, CR_put (d := 0) c (Or.inl ⟨rfl, by decide⟩), k, mkC_num (by decide), sO_t s (sO_put (d := 0) (by decide))⟩
theorem rm_p2 (m : RM T q h S h') (x : Int32) : RM T q h (uS S 0 2 x) (hput h' q 11 (.inl (.int x))) := by
  obtain ⟨rd, c, k, rfl, s⟩ := m
  exact ⟨_, RR_put (d := 0) c (Or.inl ⟨rfl, by decide⟩), k, mkR_num (by decide), sQ_t s (sQ_put (d := 0) (Or.inl ⟨rfl, by decide⟩))⟩
theorem cm_p3 (m : CM T q h S h') (x : Int32) : CM T q h (uS S 0 3 x) (hput h' q 3 (.inl (.int x))) := by
  obtain ⟨rd, jj, c, k, rfl, s⟩ := m
  exact ⟨_, jj, CR_put (d := 0) c (Or.inl ⟨rfl, by decide⟩), k, mkC_num (by decide), sO_t s (sO_put (d := 0) (by decide))⟩
theorem rm_p3 (m : RM T q h S h') (x : Int32) : RM T q h (uS S 0 3 x) (hput h' q 12 (.inl (.int x))) := by
  obtain ⟨rd, c, k, rfl, s⟩ := m
  exact ⟨_, RR_put (d := 0) c (Or.inl ⟨rfl, by decide⟩), k, mkR_num (by decide), sQ_t s (sQ_put (d := 0) (Or.inl ⟨rfl, by decide⟩))⟩
theorem cm_p4 (m : CM T q h S h') (x : Int32) : CM T q h (uS S 0 4 x) (hput h' q 4 (.inl (.int x))) := by
  obtain ⟨rd, jj, c, k, rfl, s⟩ := m
  exact ⟨_, jj, CR_put (d := 0) c (Or.inl ⟨rfl, by decide⟩), k, mkC_num (by decide), sO_t s (sO_put (d := 0) (by decide))⟩
theorem rm_p4 (m : RM T q h S h') (x : Int32) : RM T q h (uS S 0 4 x) (hput h' q 13 (.inl (.int x))) := by
  obtain ⟨rd, c, k, rfl, s⟩ := m
  exact ⟨_, RR_put (d := 0) c (Or.inl ⟨rfl, by decide⟩), k, mkR_num (by decide), sQ_t s (sQ_put (d := 0) (Or.inl ⟨rfl, by decide⟩))⟩
theorem cm_p5 (m : CM T q h S h') (x : Int32) : CM T q h (uS S 0 5 x) (hput h' q 5 (.inl (.int x))) := by
  obtain ⟨rd, jj, c, k, rfl, s⟩ := m
  exact ⟨_, jj, CR_put (d := 0) c (Or.inl ⟨rfl, by decide⟩), k, mkC_num (by decide), sO_t s (sO_put (d := 0) (by decide))⟩
theorem rm_p5 (m : RM T q h S h') (x : Int32) : RM T q h (uS S 0 5 x) (hput h' q 14 (.inl (.int x))) := by
  obtain ⟨rd, c, k, rfl, s⟩ := m
  exact ⟨_, RR_put (d := 0) c (Or.inl ⟨rfl, by decide⟩), k, mkR_num (by decide), sQ_t s (sQ_put (d := 0) (Or.inl ⟨rfl, by decide⟩))⟩
theorem cm_p6 (m : CM T q h S h') (x : Int32) : CM T q h (uS S 0 6 x) (hput h' q 6 (.inl (.int x))) := by
  obtain ⟨rd, jj, c, k, rfl, s⟩ := m
  exact ⟨_, jj, CR_put (d := 0) c (Or.inl ⟨rfl, by decide⟩), k, mkC_num (by decide), sO_t s (sO_put (d := 0) (by decide))⟩
theorem rm_p6 (m : RM T q h S h') (x : Int32) : RM T q h (uS S 0 6 x) (hput h' q 15 (.inl (.int x))) := by
  obtain ⟨rd, c, k, rfl, s⟩ := m
  exact ⟨_, RR_put (d := 0) c (Or.inl ⟨rfl, by decide⟩), k, mkR_num (by decide), sQ_t s (sQ_put (d := 0) (Or.inl ⟨rfl, by decide⟩))⟩
end
