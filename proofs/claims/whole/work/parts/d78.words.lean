theorem fx_word {F : Int32 → Int32 ⊕ Int32} {d : Int32} {b c : Nat → Int32} (l : Nat) (hend : F (nI l) = .inr 1) (hstep : ∀ j, j < l → F (nI j) = if b j = c j then .inl (nI j + 1) else .inr 0) : (fx F d 0 = 1 ∧ ∀ j, j < l → b j = c j) ∨ (fx F d 0 = 0 ∧ ¬ ∀ j, j < l → b j = c j) := by
  refine fx_forI (F := F) (d := d) (fun j s => s = nI j ∧ ∀ u, u < j → b u = c u) (fun r => (r = 1 ∧ ∀ j, j < l → b j = c j) ∨ (r = 0 ∧ ¬ ∀ j, j < l → b j = c j)) l (fun s hs => ?_) (fun j s hj hs => ?_) ⟨rfl, fun u hu => absurd hu (Nat.not_lt_zero u)⟩
  · obtain ⟨rfl, h⟩ := hs
    exact ⟨1, hend, Or.inl ⟨rfl, h⟩⟩
  · obtain ⟨rfl, h⟩ := hs
    rw [hstep j hj]
    by_cases y : b j = c j
    · rw [if_pos y, nI_s]
      refine Or.inr ⟨_, rfl, rfl, fun u hu => ?_⟩
      by_cases z : u = j
      · rw [z]
        exact y
      · exact h u (by omega)
    · rw [if_neg y]
      exact Or.inl ⟨0, rfl, Or.inr ⟨rfl, fun q => y (q j hj)⟩⟩
/-- the words -/
def wdl (w : Nat) : Nat := (sln w).toNatClampNeg
def isW (B : Nat → Int32) (n e w : Nat) : Prop := lxK B n e = 1 ∧ lxL B n e = wdl w ∧ ∀ i, i < wdl w → B (lxS B n e + i) = sch w (nI i)
theorem wd_ok : ∀ k, k < 8 → sln (1000000 + k) = nI (wdl (1000000 + k)) ∧ 3 ≤ wdl (1000000 + k) ∧ wdl (1000000 + k) ≤ 5 := by decide +kernel
theorem wd_ne : ∀ k, k < 7 → ∀ j, j < 7 → k ≠ j → sch (1000000 + k) (nI 0) ≠ sch (1000000 + j) (nI 0) := by decide +kernel
theorem isW_one {B : Nat → Int32} {n e : Nat} {k j : Nat} (hk : k < 7) (hj : j < 7) (h : isW B n e (1000000 + k)) (h2 : isW B n e (1000000 + j)) : k = j := by
  have a := h.2.2 0 (by have := (wd_ok k (by omega)).2.1; omega)
  have b := h2.2.2 0 (by have := (wd_ok j (by omega)).2.1; omega)
  exact Decidable.byContradiction (fun y => wd_ne k hk j hj y (a.symm.trans b))
section
variable {T : List Nat} {h h' : zH} {B : Nat → Int32} {n e : Nat}
theorem c_isWord (t : tpC B n h') (he : e ≤ n) (h2 : hv h' 29 2 = nI (lxK B n e)) (h3 : hv h' 29 3 = nI (lxS B n e)) (h4 : hv h' 29 4 = nI (lxE B n e)) {k : Nat} (hk : k < 8) : (F_X2_isWord h' 29 (1000000 + k) = 1 ∧ isW B n e (1000000 + k)) ∨ (F_X2_isWord h' 29 (1000000 + k) = 0 ∧ ¬ isW B n e (1000000 + k)) := by
  obtain ⟨t0, t1, t2, t3⟩ := t
  obtain ⟨w1, w2, w3⟩ := wd_ok k hk
  obtain ⟨e1, e2⟩ := lxE_b (B := B) he
  have kb := lxK_b (B := B) (n := n) (e := e)
  have k1 : nI (lxK B n e) = (1 : Int32) ↔ lxK B n e = 1 := nIeq (b := 1) (by omega) (by decide)
  have kl : nI (lxE B n e - lxS B n e) = nI (wdl (1000000 + k)) ↔ lxL B n e = wdl (1000000 + k) := nIeq (by omega) (by omega)
  unfold F_X2_isWord
  rw [h2, h4, h3, w1, nI_sub e1 (by omega)]
  by_cases y : lxK B n e = 1
  · rw [if_pos (k1.mpr y)]
    by_cases z : lxL B n e = wdl (1000000 + k)
    · rw [if_pos (kl.mpr z)]
      unfold lxL at z
      rcases fx_word (F := B_X2_isWord_30 h' 29 (1000000 + k) (nI (wdl (1000000 + k)))) (d := 0) (b := fun i => B (lxS B n e + i)) (c := fun i => sch (1000000 + k) (nI i)) (wdl (1000000 + k)) (by
        unfold B_X2_isWord_30
        rw [if_neg (fun y => absurd ((nIlt (by omega) (by omega)).mp y) (Nat.lt_irrefl _))]) (fun j hj => by
        unfold B_X2_isWord_30
        rw [if_pos ((nIlt (by omega) (by omega)).mpr hj), t0, h3, nI_ad2 (by omega), nI_c (by omega), t3 _ (by omega)]) with ⟨a, b⟩ | ⟨a, b⟩
      · exact Or.inl ⟨a, y, z, b⟩
      · exact Or.inr ⟨a, fun q => b q.2.2⟩
    · rw [if_neg (fun q => z (kl.mp q))]
      exact Or.inr ⟨rfl, fun q => z q.2.1⟩
  · rw [if_neg (fun q => y (k1.mp q))]
    exact Or.inr ⟨rfl, fun q => y q.1⟩
theorem r_isWord (t : tpR B n h') (he : e ≤ n) (h2 : hv h' 49 29 = nI (lxR B n e)) (h3 : hv h' 49 30 = nI (lxS B n e)) (h4 : hv h' 49 28 = nI (lxE B n e)) {k : Nat} (hk : k < 8) : (F_X5_isWord h' 49 (1000000 + k) = 1 ∧ isW B n e (1000000 + k)) ∨ (F_X5_isWord h' 49 (1000000 + k) = 0 ∧ ¬ isW B n e (1000000 + k)) := by
  obtain ⟨t0, t1, t2, t3⟩ := t
  obtain ⟨w1, w2, w3⟩ := wd_ok k hk
  obtain ⟨e1, e2⟩ := lxE_b (B := B) he
  have kb := lxK_b (B := B) (n := n) (e := e)
  have k1 : nI (lxR B n e) = (1 : Int32) ↔ lxK B n e = 1 := by
    have : lxR B n e ≤ 5 := by
      unfold lxR
      split <;> omega
    refine (nIeq (b := 1) (by omega) (by decide)).trans ?_
    unfold lxR
    by_cases y : 4 ≤ lxK B n e
    · rw [if_pos y]
      omega
    · rw [if_neg y]
  have kl : nI (lxE B n e - lxS B n e) = nI (wdl (1000000 + k)) ↔ lxL B n e = wdl (1000000 + k) := nIeq (by omega) (by omega)
  unfold F_X5_isWord
  rw [h2, h4, h3, w1, nI_sub e1 (by omega)]
  by_cases y : lxK B n e = 1
  · rw [if_pos (k1.mpr y)]
    by_cases z : lxL B n e = wdl (1000000 + k)
    · rw [if_pos (kl.mpr z)]
      unfold lxL at z
      rcases fx_word (F := B_X5_isWord_28 h' 49 (1000000 + k)) (d := 0) (b := fun i => B (lxS B n e + i)) (c := fun i => sch (1000000 + k) (nI i)) (wdl (1000000 + k)) (by
        unfold B_X5_isWord_28
        rw [w1, if_neg (fun y => absurd ((nIlt (by omega) (by omega)).mp y) (Nat.lt_irrefl _))]) (fun j hj => by
        unfold B_X5_isWord_28
        rw [w1, if_pos ((nIlt (by omega) (by omega)).mpr hj), t0, h3, nI_ad2 (by omega), nI_c (by omega), t3 _ (by omega)]) with ⟨a, b⟩ | ⟨a, b⟩
      · exact Or.inl ⟨a, y, z, b⟩
      · exact Or.inr ⟨a, fun q => b q.2.2⟩
    · rw [if_neg (fun q => z (kl.mp q))]
      exact Or.inr ⟨rfl, fun q => z q.2.1⟩
  · rw [if_neg (fun q => y (k1.mp q))]
    exact Or.inr ⟨rfl, fun q => y q.1⟩
end
