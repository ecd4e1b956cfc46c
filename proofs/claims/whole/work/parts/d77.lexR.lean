section
variable {T : List Nat} {h h' : zH} {B : Nat → Int32} {n e : Nat}
/-- the reference's tape, as it is read -/
def tpR (B : Nat → Int32) (n : Nat) (h : zH) : Prop := hr h 49 6 = 64 ∧ hv h 49 7 = nI n ∧ n ≤ 250 ∧ ∀ i, i < n → hv h 64 i = B i
def TPr (T : List Nat) (h : zH) (a b c d : Int32) (h' : zH) : Prop := hOK kty T h' ∧ (∀ m i, ¬ (m = 49 ∧ 28 ≤ i ∧ i ≤ 31) → hget h' m i = hget h m i) ∧ hv h' 49 28 = a ∧ hv h' 49 29 = b ∧ hv h' 49 30 = c ∧ hv h' 49 31 = d
theorem tpR_eq (t : tpR B n h) (e : ∀ m i, ¬ (m = 49 ∧ 28 ≤ i ∧ i ≤ 31) → hget h' m i = hget h m i) : tpR B n h' := ⟨(hr_eq (e 49 6 (by omega))).trans t.1, (hv_eq (e 49 7 (by omega))).trans t.2.1, t.2.2.1, fun i hi => (hv_eq (e 64 i (by omega))).trans (t.2.2.2 i hi)⟩
theorem tpr_put (ht : T[49]? = some 5) {a b c d : Int32} (p : TPr T h a b c d h') {i : Nat} (h2 : 28 ≤ i) (h5 : i ≤ 31) (x : Int32) : TPr T h (if i = 28 then x else a) (if i = 29 then x else b) (if i = 30 then x else c) (if i = 31 then x else d) (hput h' 49 i (.inl (.int x))) := by
  obtain ⟨p1, p2, p3, p4, p5, p6⟩ := p
  have hi : i = 28 ∨ i = 29 ∨ i = 30 ∨ i = 31 := by omega
  have i6 : i < 41 := by omega
  have k0 : ((zty 5).2.2 i).1 = 0 := by
    rcases hi with rfl | rfl | rfl | rfl <;> rfl
  have g := k_int p1 ht (i := i) i6 k0
  refine ⟨k_put p1 ht k0 x, fun m j hj => ?_, ?_, ?_, ?_, ?_⟩
  · rw [hget_put_ne (by omega)]
    exact p2 m j hj
  · by_cases y : i = 28
    · subst y
      rw [if_pos rfl, hv_put g]
    · rw [if_neg y, hv_ne (Or.inr (by omega))]
      exact p3
  · by_cases y : i = 29
    · subst y
      rw [if_pos rfl, hv_put g]
    · rw [if_neg y, hv_ne (Or.inr (by omega))]
      exact p4
  · by_cases y : i = 30
    · subst y
      rw [if_pos rfl, hv_put g]
    · rw [if_neg y, hv_ne (Or.inr (by omega))]
      exact p5
  · by_cases y : i = 31
    · subst y
      rw [if_pos rfl, hv_put g]
    · rw [if_neg y, hv_ne (Or.inr (by omega))]
      exact p6
theorem tpr_28 (ht : T[49]? = some 5) {a b c d : Int32} (p : TPr T h a b c d h') (x : Int32) : TPr T h x b c d (hput h' 49 28 (.inl (.int x))) := tpr_put ht p (by decide) (by decide) x
theorem tpr_29 (ht : T[49]? = some 5) {a b c d : Int32} (p : TPr T h a b c d h') (x : Int32) : TPr T h a x c d (hput h' 49 29 (.inl (.int x))) := tpr_put ht p (by decide) (by decide) x
theorem tpr_30 (ht : T[49]? = some 5) {a b c d : Int32} (p : TPr T h a b c d h') (x : Int32) : TPr T h a b x d (hput h' 49 30 (.inl (.int x))) := tpr_put ht p (by decide) (by decide) x
theorem tpr_31 (ht : T[49]? = some 5) {a b c d : Int32} (p : TPr T h a b c d h') (x : Int32) : TPr T h a b c x (hput h' 49 31 (.inl (.int x))) := tpr_put ht p (by decide) (by decide) x
/-- the figures behind j digits -/
def fgP (B : Nat → Int32) (s j : Nat) : Int32 := if j ≤ 4 then lxP B s j else 100000
/-- the reference's next token -/
theorem r_look (ht : T[49]? = some 5) (t : tpR B n h) {b c d : Int32} (he : e ≤ n) (p : TPr T h (nI e) b c d h') : TPr T h (nI (lxE B n e)) (nI (lxR B n e)) (nI (lxS B n e)) (lxG B n e) (F_X5_look h' 49) := by
  have n250 := t.2.2.1
  obtain ⟨s1, s2, s3, s4⟩ := lxS_p (B := B) he
  obtain ⟨e1, e2⟩ := lxE_b (B := B) he
  have kb := lxK_b (B := B) (n := n) (e := e)
  have beg : ∀ {x : zH}, TPr T h (nI (lxS B n e)) b c d x → TPr T h (nI (lxE B n e)) (nI (lxR B n e)) (nI (lxS B n e)) (lxG B n e) (J_X5_look_j38 x 49) := by
    intro x q
    have q1 := tpr_30 ht q (nI (lxS B n e))
    have q2 := tpr_31 ht q1 (0 : Int32)
    obtain ⟨p1, p2, p3, p4, p5, p6⟩ := id q2
    obtain ⟨u0, u1, u2, u3⟩ := tpR_eq t p2
    unfold J_X5_look_j38 J_X5_look_j250 J_X5_look_j263
    simp only [letf]
    rw [q.2.2.1, p3, u1, u0]
    by_cases y : lxS B n e < n
    · have ek : lxK B n e = srt (B (lxS B n e)) := if_pos y
      obtain ⟨i1, i2, i3, i4⟩ := srt_i (x := B (lxS B n e))
      rw [if_neg (fun z => by have := (nIeq (by omega) (by omega)).mp z; omega), nI_c (by omega), u3 _ y, i3, i4, ← ek]
      by_cases k1 : lxK B n e = 1
      · rw [if_pos k1, if_neg t10]
        have q3 := tpr_29 ht q2 (1 : Int32)
        have eR : lxR B n e = 1 := by
          unfold lxR
          rw [k1]
          rfl
        have eG : lxG B n e = 0 := by
          unfold lxG
          rw [k1]
          rfl
        rw [eR, eG]
        obtain ⟨w1, w2, w3, w4⟩ := lxE_w he (Or.inl k1)
        refine fx_forI (F := B_X5_look_90 49) (d := []) (fun j s => TPr T h (nI (lxS B n e + j)) 1 (nI (lxS B n e)) 0 s) (fun r => TPr T h (nI (lxE B n e)) 1 (nI (lxS B n e)) 0 r) (lxE B n e - lxS B n e) (fun s hs => ?_) (fun j s hj hs => ?_) q3
        · have ee : lxS B n e + (lxE B n e - lxS B n e) = lxE B n e := by omega
          rw [ee] at hs
          obtain ⟨p1, p2, p3, p4, p5, p6⟩ := id hs
          obtain ⟨u0, u1, u2, u3⟩ := tpR_eq t p2
          unfold B_X5_look_90 J_X5_look_j263
          rw [p3, u1, u0]
          by_cases y : lxE B n e < n
          · simp only [letf]
            have h4 := w4 y
            rw [k1] at h4
            rw [if_pos ((nIlt (by omega) (by omega)).mpr y), nI_c (by omega), u3 _ y, (srt_i (x := B (lxE B n e))).2.2.1, if_neg h4, if_pos rfl]
            exact ⟨_, rfl, hs⟩
          · rw [if_neg (fun z => y ((nIlt (by omega) (by omega)).mp z))]
            exact ⟨_, rfl, hs⟩
        · obtain ⟨p1, p2, p3, p4, p5, p6⟩ := id hs
          obtain ⟨u0, u1, u2, u3⟩ := tpR_eq t p2
          have hu := w3 (lxS B n e + j) (by omega) (by omega)
          rw [k1] at hu
          unfold B_X5_look_90
          simp only [letf]
          rw [p3, u1, u0, if_pos ((nIlt (by omega) (by omega)).mpr (by omega)), nI_c (by omega), u3 _ (by omega), (srt_i (x := B (lxS B n e + j))).2.2.1, if_pos hu, if_neg t10, nI_s]
          exact Or.inr ⟨_, rfl, tpr_28 ht hs _⟩
      · rw [if_neg k1, if_pos rfl]
        by_cases k2 : lxK B n e = 2
        · rw [if_pos k2, if_neg t10]
          have q3 := tpr_29 ht q2 (2 : Int32)
          have eR : lxR B n e = 2 := by
            unfold lxR
            rw [k2]
            rfl
          have eG : lxG B n e = fgP B (lxS B n e) (lxL B n e) := by
            unfold lxG
            rw [if_pos k2]
            rfl
          rw [eR, eG]
          obtain ⟨w1, w2, w3, w4⟩ := lxE_w he (Or.inr k2)
          refine fx_forI (F := B_X5_look_149 49) (d := []) (fun j s => TPr T h (nI (lxS B n e + j)) 2 (nI (lxS B n e)) (fgP B (lxS B n e) j) s) (fun r => TPr T h (nI (lxE B n e)) 2 (nI (lxS B n e)) (fgP B (lxS B n e) (lxL B n e)) r) (lxE B n e - lxS B n e) (fun s hs => ?_) (fun j s hj hs => ?_) q3
          · have ee : lxS B n e + (lxE B n e - lxS B n e) = lxE B n e := by omega
            rw [ee] at hs
            obtain ⟨p1, p2, p3, p4, p5, p6⟩ := id hs
            obtain ⟨u0, u1, u2, u3⟩ := tpR_eq t p2
            unfold B_X5_look_149 J_X5_look_j263
            rw [p3, u1, u0]
            by_cases y : lxE B n e < n
            · simp only [letf]
              have h4 := w4 y
              rw [k2] at h4
              rw [if_pos ((nIlt (by omega) (by omega)).mpr y), nI_c (by omega), u3 _ y, (srt_i (x := B (lxE B n e))).2.2.2, if_neg h4, if_pos rfl]
              exact ⟨_, rfl, hs⟩
            · rw [if_neg (fun z => y ((nIlt (by omega) (by omega)).mp z))]
              exact ⟨_, rfl, hs⟩
          · obtain ⟨p1, p2, p3, p4, p5, p6⟩ := id hs
            obtain ⟨u0, u1, u2, u3⟩ := tpR_eq t p2
            have hu := w3 (lxS B n e + j) (by omega) (by omega)
            rw [k2] at hu
            have l4 : nI (lxS B n e + j - lxS B n e) < (4 : Int32) ↔ lxS B n e + j - lxS B n e < 4 := nIlt (b := 4) (by omega) (by decide)
            unfold B_X5_look_149
            simp only [letf]
            rw [p3, u1, u0, p5, p6, if_pos ((nIlt (by omega) (by omega)).mpr (by omega)), nI_c (by omega), u3 _ (by omega), (srt_i (x := B (lxS B n e + j))).2.2.2, if_pos hu, if_neg t10, nI_sub (by omega) (by omega)]
            by_cases z : lxS B n e + j - lxS B n e < 4
            · have q4 := tpr_31 ht hs (fgP B (lxS B n e) j * (10 : Int32) + B (lxS B n e + j) - (48 : Int32))
              have q5 := tpr_28 ht q4 (nI (lxS B n e + j) + 1)
              have eF : fgP B (lxS B n e) j * (10 : Int32) + B (lxS B n e + j) - (48 : Int32) = fgP B (lxS B n e) (j + 1) := by
                unfold fgP
                rw [if_pos (by omega), if_pos (by omega), Int32.mul_comm]
                rfl
              rw [if_pos (l4.mpr z), q4.2.2.1]
              rw [eF, nI_s] at q5
              rw [eF, nI_s]
              exact Or.inr ⟨_, rfl, q5⟩
            · have q4 := tpr_31 ht hs (100000 : Int32)
              have q5 := tpr_28 ht q4 (nI (lxS B n e + j) + 1)
              have eF : (100000 : Int32) = fgP B (lxS B n e) (j + 1) := by
                unfold fgP
                rw [if_neg (by omega)]
              rw [if_neg (fun w => z (l4.mp w)), q4.2.2.1]
              rw [eF, nI_s] at q5
              rw [eF, nI_s]
              exact Or.inr ⟨_, rfl, q5⟩
        · rw [if_neg k2, if_pos rfl]
          have eE : lxE B n e = lxS B n e + 1 := by
            rw [lxE_o (by omega), if_pos y]
          have eG : lxG B n e = 0 := if_neg k2
          rw [eE, eG]
          by_cases k3 : B (lxS B n e) = 59
          · have e3 : lxK B n e = 3 := ek.trans (i2.mp k3)
            have eR : lxR B n e = 3 := by
              unfold lxR
              rw [e3]
              rfl
            have q3 := tpr_29 ht q2 (3 : Int32)
            rw [if_pos k3, q3.2.2.1, nI_s, eR]
            exact tpr_28 ht q3 _
          · have n3 : lxK B n e ≠ 3 := fun z => k3 (i2.mpr (ek.symm.trans z))
            have n0 := (srt_b (B (lxS B n e))).1
            have eR : lxR B n e = 4 := by
              unfold lxR
              rw [if_pos (by omega)]
            have q3 := tpr_29 ht q2 (4 : Int32)
            rw [if_neg k3, q3.2.2.1, nI_s, eR]
            exact tpr_28 ht q3 _
    · have ek : lxK B n e = 0 := if_neg y
      have es : lxS B n e = n := by omega
      have eE : lxE B n e = lxS B n e := by
        rw [lxE_o (by omega), if_neg y, es]
      have eG : lxG B n e = 0 := if_neg (by omega)
      have eR : lxR B n e = 0 := by
        unfold lxR
        rw [ek]
        rfl
      rw [if_pos (by rw [es]), eE, eG, eR]
      exact tpr_29 ht q2 (0 : Int32)
  unfold F_X5_look
  refine fx_forI (F := B_X5_look_0 49) (d := []) (fun j s => TPr T h (nI (e + j)) b c d s) (fun r => TPr T h (nI (lxE B n e)) (nI (lxR B n e)) (nI (lxS B n e)) (lxG B n e) r) (lxS B n e - e) (fun s hs => ?_) (fun j s hj hs => ?_) p
  · have ee : e + (lxS B n e - e) = lxS B n e := by omega
    rw [ee] at hs
    obtain ⟨q1, q2, q3, q4, q5, q6⟩ := id hs
    obtain ⟨u0, u1, u2, u3⟩ := tpR_eq t q2
    unfold B_X5_look_0
    rw [q3, u1, u0]
    by_cases y : lxS B n e < n
    · rw [if_pos ((nIlt (by omega) (by omega)).mpr y), nI_c (by omega), u3 _ y, if_neg (fun z => s4 y ((srt_i (x := B (lxS B n e))).1.mp z))]
      exact ⟨_, rfl, beg hs⟩
    · rw [if_neg (fun z => y ((nIlt (by omega) (by omega)).mp z))]
      exact ⟨_, rfl, beg hs⟩
  · obtain ⟨q1, q2, q3, q4, q5, q6⟩ := id hs
    obtain ⟨u0, u1, u2, u3⟩ := tpR_eq t q2
    have hu := s3 (e + j) (by omega) (by omega)
    unfold B_X5_look_0
    simp only [letf]
    rw [q3, u1, u0, if_pos ((nIlt (by omega) (by omega)).mpr (by omega)), nI_c (by omega), u3 _ (by omega), if_pos ((srt_i (x := B (e + j))).1.mpr hu), nI_s]
    exact Or.inr ⟨_, rfl, tpr_28 ht hs _⟩
end
