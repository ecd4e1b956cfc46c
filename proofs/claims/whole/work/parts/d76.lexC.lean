section
variable {T : List Nat} {h h' : zH} {B : Nat → Int32} {n e : Nat}
/-- the class's tape, as it is read -/
def tpC (B : Nat → Int32) (n : Nat) (h : zH) : Prop := hr h 29 0 = 30 ∧ hv h 29 1 = nI n ∧ n ≤ 250 ∧ ∀ i, i < n → hv h 30 i = B i
def TPc (T : List Nat) (h : zH) (a b c d : Int32) (h' : zH) : Prop := hOK kty T h' ∧ (∀ m i, ¬ (m = 29 ∧ 2 ≤ i ∧ i ≤ 5) → hget h' m i = hget h m i) ∧ hv h' 29 2 = a ∧ hv h' 29 3 = b ∧ hv h' 29 4 = c ∧ hv h' 29 5 = d
theorem tpC_eq (t : tpC B n h) (e : ∀ m i, ¬ (m = 29 ∧ 2 ≤ i ∧ i ≤ 5) → hget h' m i = hget h m i) : tpC B n h' := ⟨(hr_eq (e 29 0 (by omega))).trans t.1, (hv_eq (e 29 1 (by omega))).trans t.2.1, t.2.2.1, fun i hi => (hv_eq (e 30 i (by omega))).trans (t.2.2.2 i hi)⟩
theorem tpc_put (ht : T[29]? = some 2) {a b c d : Int32} (p : TPc T h a b c d h') {i : Nat} (h2 : 2 ≤ i) (h5 : i ≤ 5) (x : Int32) : TPc T h (if i = 2 then x else a) (if i = 3 then x else b) (if i = 4 then x else c) (if i = 5 then x else d) (hput h' 29 i (.inl (.int x))) := by
  obtain ⟨p1, p2, p3, p4, p5, p6⟩ := p
  have hi : i = 2 ∨ i = 3 ∨ i = 4 ∨ i = 5 := by omega
  have i6 : i < 6 := by omega
  have k0 : ((zty 2).2.2 i).1 = 0 := by
    rcases hi with rfl | rfl | rfl | rfl <;> rfl
  have g := k_int p1 ht (i := i) i6 k0
  refine ⟨k_put p1 ht k0 x, fun m j hj => ?_, ?_, ?_, ?_, ?_⟩
  · rw [hget_put_ne (by omega)]
    exact p2 m j hj
  · by_cases y : i = 2
    · subst y
      rw [if_pos rfl, hv_put g]
    · rw [if_neg y, hv_ne (Or.inr (by omega))]
      exact p3
  · by_cases y : i = 3
    · subst y
      rw [if_pos rfl, hv_put g]
    · rw [if_neg y, hv_ne (Or.inr (by omega))]
      exact p4
  · by_cases y : i = 4
    · subst y
      rw [if_pos rfl, hv_put g]
    · rw [if_neg y, hv_ne (Or.inr (by omega))]
      exact p5
  · by_cases y : i = 5
    · subst y
      rw [if_pos rfl, hv_put g]
    · rw [if_neg y, hv_ne (Or.inr (by omega))]
      exact p6
theorem tpc_2 (ht : T[29]? = some 2) {a b c d : Int32} (p : TPc T h a b c d h') (x : Int32) : TPc T h x b c d (hput h' 29 2 (.inl (.int x))) := tpc_put ht p (by decide) (by decide) x
theorem tpc_3 (ht : T[29]? = some 2) {a b c d : Int32} (p : TPc T h a b c d h') (x : Int32) : TPc T h a x c d (hput h' 29 3 (.inl (.int x))) := tpc_put ht p (by decide) (by decide) x
theorem tpc_4 (ht : T[29]? = some 2) {a b c d : Int32} (p : TPc T h a b c d h') (x : Int32) : TPc T h a b x d (hput h' 29 4 (.inl (.int x))) := tpc_put ht p (by decide) (by decide) x
theorem tpc_5 (ht : T[29]? = some 2) {a b c d : Int32} (p : TPc T h a b c d h') (x : Int32) : TPc T h a b c x (hput h' 29 5 (.inl (.int x))) := tpc_put ht p (by decide) (by decide) x
theorem nIlt {a b : Nat} (ha : a ≤ 1000) (hb : b ≤ 1000) : nI a < nI b ↔ a < b := by
  rw [i_lt, nI_t (by omega), nI_t (by omega)]
  omega
theorem nIeq {a b : Nat} (ha : a ≤ 1000) (hb : b ≤ 1000) : nI a = nI b ↔ a = b := by
  rw [i_eq, nI_t (by omega), nI_t (by omega)]
  omega
/-- the number of a token -/
theorem c_numberOf (t : tpC B n h') {s l : Nat} (h3 : hv h' 29 3 = nI s) (h4 : hv h' 29 4 = nI (s + l)) (hl : s + l ≤ n) : F_X2_numberOf h' 29 = lxP B s l := by
  obtain ⟨t0, t1, t2, t3⟩ := t
  unfold F_X2_numberOf
  rw [h3]
  refine fx_for (F := B_X2_numberOf_7 h' 29) (fun j => (lxP B s j, nI (s + j))) (lxP B s l) l ?_ (fun j hj => ?_)
  · unfold B_X2_numberOf_7
    dsimp only
    rw [h4, if_neg (fun y => absurd ((nIlt (by omega) (by omega)).mp y) (Nat.lt_irrefl _))]
  · unfold B_X2_numberOf_7
    dsimp only
    rw [h4, if_pos ((nIlt (by omega) (by omega)).mpr (by omega)), t0, nI_c (by omega), t3 _ (by omega), nI_s]
    rfl
/-- the class's next token -/
theorem c_step (ht : T[29]? = some 2) (t : tpC B n h) {a b d : Int32} (he : e ≤ n) (p : TPc T h a b (nI e) d h') : TPc T h (nI (lxK B n e)) (nI (lxS B n e)) (nI (lxE B n e)) (lxV B n e) (F_X2_step h' 29) := by
  have n250 := t.2.2.1
  obtain ⟨s1, s2, s3, s4⟩ := lxS_p (B := B) he
  obtain ⟨e1, e2⟩ := lxE_b (B := B) he
  have kb := lxK_b (B := B) (n := n) (e := e)
  have fin : ∀ {d : Int32} {x : zH} (c1 : Int32), TPc T h (nI (lxK B n e)) (nI (lxS B n e)) (nI (lxE B n e)) d x → TPc T h (nI (lxK B n e)) (nI (lxS B n e)) (nI (lxE B n e)) (lxV B n e) (J_X2_step_j165 x 29 c1) := by
    intro d x c1 q
    obtain ⟨q1, q2, q3, q4, q5, q6⟩ := id q
    have tx := tpC_eq t q2
    have r5 : ∀ y, TPc T h (nI (lxK B n e)) (nI (lxS B n e)) (nI (lxE B n e)) y (J_X2_step_j195 x 29 c1 y 29) := fun y => by
      unfold J_X2_step_j195
      exact tpc_5 ht q y
    unfold J_X2_step_j165 J_X2_step_j194
    simp only [letf]
    rw [q3, q4, q5, nI_sub e1 (by omega)]
    have k2 : nI (lxK B n e) = (2 : Int32) ↔ lxK B n e = 2 := nIeq (b := 2) (by omega) (by decide)
    have l4 : (4 : Int32) < nI (lxE B n e - lxS B n e) ↔ 4 < lxE B n e - lxS B n e := nIlt (a := 4) (by decide) (by omega)
    unfold lxV
    by_cases y : lxK B n e = 2
    · rw [if_pos (k2.mpr y)]
      by_cases z : 4 < lxE B n e - lxS B n e
      · rw [if_pos (l4.mpr z), if_neg (fun w => by have := w.2; unfold lxL at this; omega)]
        exact r5 _
      · rw [if_neg (fun w => z (l4.mp w)), if_pos ⟨y, by unfold lxL; omega⟩]
        have en := c_numberOf tx (s := lxS B n e) (l := lxL B n e) q4 (by rw [q5]; unfold lxL; congr 1; omega) (by unfold lxL; omega)
        rw [en]
        exact r5 _
    · rw [if_neg (fun w => y (k2.mp w)), if_neg (fun w => y w.1)]
      exact r5 _
  have run : ∀ {d : Int32} {x : zH} (c1 : Int32), (c1 = 1 ∧ (lxK B n e = 1 ∨ lxK B n e = 2) ∧ TPc T h (nI (lxK B n e)) (nI (lxS B n e)) (nI (lxS B n e + 1)) d x) ∨ (c1 = 0 ∧ TPc T h (nI (lxK B n e)) (nI (lxS B n e)) (nI (lxE B n e)) d x) → TPc T h (nI (lxK B n e)) (nI (lxS B n e)) (nI (lxE B n e)) (lxV B n e) (J_X2_step_j117 x 29 c1) := by
    intro d x c1 q
    unfold J_X2_step_j117
    rcases q with ⟨rfl, hk, q⟩ | ⟨rfl, q⟩
    · obtain ⟨w1, w2, w3, w4⟩ := lxE_w he hk
      refine fx_forI (F := B_X2_step_118 29 1) (d := []) (fun j s => TPc T h (nI (lxK B n e)) (nI (lxS B n e)) (nI (lxS B n e + 1 + j)) d s) (fun r => TPc T h (nI (lxK B n e)) (nI (lxS B n e)) (nI (lxE B n e)) (lxV B n e) r) (lxE B n e - (lxS B n e + 1)) (fun s hs => ?_) (fun j s hj hs => ?_) q
      · have ee : lxS B n e + 1 + (lxE B n e - (lxS B n e + 1)) = lxE B n e := by omega
        rw [ee] at hs
        obtain ⟨q1, q2, q3, q4, q5, q6⟩ := id hs
        obtain ⟨u0, u1, u2, u3⟩ := tpC_eq t q2
        unfold B_X2_step_118
        rw [if_neg t10, q5, u1, u0]
        by_cases y : lxE B n e < n
        · simp only [letf]
          rw [if_pos ((nIlt (by omega) (by omega)).mpr y), nI_c (by omega), u3 _ y, F_sort, q3, if_neg (fun z => w4 y ((nIeq (by have := srt_b (B (lxE B n e)); omega) (by omega)).mp z))]
          exact ⟨_, rfl, fin 1 hs⟩
        · rw [if_neg (fun z => y ((nIlt (by omega) (by omega)).mp z))]
          exact ⟨_, rfl, fin 1 hs⟩
      · obtain ⟨q1, q2, q3, q4, q5, q6⟩ := id hs
        obtain ⟨u0, u1, u2, u3⟩ := tpC_eq t q2
        have hu := w3 (lxS B n e + 1 + j) (by omega) (by omega)
        unfold B_X2_step_118
        simp only [letf]
        rw [if_neg t10, q5, u1, u0, if_pos ((nIlt (by omega) (by omega)).mpr (by omega)), nI_c (by omega), u3 _ (by omega), F_sort, q3, hu, if_pos rfl, nI_s]
        exact Or.inr ⟨_, rfl, tpc_4 ht hs _⟩
    · refine (fx_stop (F := B_X2_step_118 29 0) (r := J_X2_step_j165 x 29 0) ?_) ▸ fin 0 q
      unfold B_X2_step_118
      rw [if_pos rfl]
  have knd : ∀ {a d : Int32} {x : zH}, TPc T h a (nI (lxS B n e)) (nI (if lxS B n e < n then lxS B n e + 1 else n)) d x → TPc T h (nI (lxK B n e)) (nI (lxS B n e)) (nI (lxE B n e)) (lxV B n e) (J_X2_step_j93 x 29 (nI (lxK B n e)) 29) := by
    intro a d x q
    have q' := tpc_2 ht q (nI (lxK B n e))
    obtain ⟨q1, q2, q3, q4, q5, q6⟩ := id q'
    unfold J_X2_step_j93 J_X2_step_j112
    simp only [letf]
    rw [q3]
    have k1 : nI (lxK B n e) = (1 : Int32) ↔ lxK B n e = 1 := nIeq (b := 1) (by omega) (by decide)
    have k2 : nI (lxK B n e) = (2 : Int32) ↔ lxK B n e = 2 := nIeq (b := 2) (by omega) (by decide)
    by_cases y : lxK B n e = 1
    · rw [if_pos (k1.mpr y)]
      rw [if_pos (lxK_in (by omega))] at q'
      exact run 1 (Or.inl ⟨rfl, Or.inl y, q'⟩)
    · rw [if_neg (fun z => y (k1.mp z))]
      by_cases y2 : lxK B n e = 2
      · rw [if_pos (k2.mpr y2)]
        rw [if_pos (lxK_in (by omega))] at q'
        exact run 1 (Or.inl ⟨rfl, Or.inr y2, q'⟩)
      · rw [if_neg (fun z => y2 (k2.mp z))]
        rw [← lxE_o (by omega)] at q'
        exact run 0 (Or.inr ⟨rfl, q'⟩)
  have beg : ∀ {a c d : Int32} {x : zH}, TPc T h a (nI (lxS B n e)) c d x → TPc T h (nI (lxK B n e)) (nI (lxS B n e)) (nI (lxE B n e)) (lxV B n e) (J_X2_step_j48 x 29) := by
    intro a c d x q
    obtain ⟨q1, q2, q3, q4, q5, q6⟩ := id q
    have em : jmin (hv x 29 3 + (1 : Int32)) (hv x 29 1) = nI (if lxS B n e < n then lxS B n e + 1 else n) := by
      obtain ⟨u0, u1, u2, u3⟩ := tpC_eq t q2
      rw [q4, u1, nI_s]
      unfold jmin
      by_cases y : lxS B n e < n
      · rw [if_pos y]
        by_cases z : nI n < nI (lxS B n e + 1)
        · rw [if_pos z]
          have := (nIlt (by omega) (by omega)).mp z
          omega
        · rw [if_neg z]
      · rw [if_neg y]
        have : lxS B n e = n := by omega
        rw [this, if_pos ((nIlt (by omega) (by omega)).mpr (by omega))]
    have q' := tpc_4 ht q (nI (if lxS B n e < n then lxS B n e + 1 else n))
    obtain ⟨p1, p2, p3, p4, p5, p6⟩ := id q'
    obtain ⟨u0, u1, u2, u3⟩ := tpC_eq t p2
    unfold J_X2_step_j48
    simp only [letf]
    rw [em, p4, u1, u0]
    by_cases y : lxS B n e < n
    · have ek : lxK B n e = srt (B (lxS B n e)) := if_pos y
      rw [if_pos ((nIlt (by omega) (by omega)).mpr y), nI_c (by omega), u3 _ y, F_sort, ← ek]
      exact knd q'
    · have ek : lxK B n e = 0 := if_neg y
      have := knd q'
      rw [if_neg (fun z => y ((nIlt (by omega) (by omega)).mp z))]
      rw [ek] at this ⊢
      exact this
  have q0 := tpc_3 ht p (nI e)
  unfold F_X2_step
  simp only [letf]
  rw [p.2.2.2.2.1]
  refine fx_forI (F := B_X2_step_8 29) (d := []) (fun j s => TPc T h a (nI (e + j)) (nI e) d s) (fun r => TPc T h (nI (lxK B n e)) (nI (lxS B n e)) (nI (lxE B n e)) (lxV B n e) r) (lxS B n e - e) (fun s hs => ?_) (fun j s hj hs => ?_) q0
  · have ee : e + (lxS B n e - e) = lxS B n e := by omega
    rw [ee] at hs
    obtain ⟨q1, q2, q3, q4, q5, q6⟩ := id hs
    obtain ⟨u0, u1, u2, u3⟩ := tpC_eq t q2
    unfold B_X2_step_8
    rw [q4, u1, u0]
    by_cases y : lxS B n e < n
    · simp only [letf]
      rw [if_pos ((nIlt (by omega) (by omega)).mpr y), nI_c (by omega), u3 _ y, F_sort, if_neg (show ¬ nI (srt (B (lxS B n e))) = (4 : Int32) from fun z => s4 y ((nIeq (b := 4) (by have := srt_b (B (lxS B n e)); omega) (by decide)).mp z))]
      exact ⟨_, rfl, beg hs⟩
    · rw [if_neg (fun z => y ((nIlt (by omega) (by omega)).mp z))]
      exact ⟨_, rfl, beg hs⟩
  · obtain ⟨q1, q2, q3, q4, q5, q6⟩ := id hs
    obtain ⟨u0, u1, u2, u3⟩ := tpC_eq t q2
    have hu := s3 (e + j) (by omega) (by omega)
    unfold B_X2_step_8
    simp only [letf]
    rw [q4, u1, u0, if_pos ((nIlt (by omega) (by omega)).mpr (by omega)), nI_c (by omega), u3 _ (by omega), F_sort, hu, if_pos (show nI 4 = (4 : Int32) from rfl), nI_s]
    exact Or.inr ⟨_, rfl, tpc_3 ht hs _⟩
end
