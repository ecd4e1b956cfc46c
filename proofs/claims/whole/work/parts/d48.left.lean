section
variable {T T2 : List Nat} {h h2 h' h2' : zH} {N N' S : ST} {K : Option ST} {C Z : Nat → Int32} {E : Nat → Nat → Int64} {n : Nat} {B R : Nat → Int32}
def badN (N : ST) : Nat := stN N &&& (unN N 4 ||| unN N 3)
def isBad (N : ST) (t : Nat) : Prop := N 6 t = -1 ∧ (kd N t = 3 ∨ kd N t = 4 ∨ kd N t = 5)
theorem unN_8 {S : ST} (w : WF S) (k : Nat) : unN S k < 256 := Nat.lt_of_lt_of_le (setN_lt _ _) (Nat.pow_le_pow_right (by decide) (nT_8 w))
theorem nb_ao (m x y t : Nat) : nb (m &&& (x ||| y)) t = 1 ↔ nb m t = 1 ∧ (nb x t = 1 ∨ nb y t = 1) := by
  rw [nb_and, nb_orr]
  have key : ∀ (P Q : Prop) [Decidable P] [Decidable Q], ((if P ∧ (if Q then 1 else 0) = 1 then 1 else 0) = 1 ↔ P ∧ Q) := by
    intro P Q _ _
    by_cases p : P
    · by_cases q : Q
      · rw [if_pos q, if_pos (show P ∧ 1 = 1 from ⟨p, rfl⟩)]
        exact ⟨fun _ => ⟨p, q⟩, fun _ => rfl⟩
      · rw [if_neg q, if_neg (show ¬ (P ∧ 0 = 1) from fun z => absurd z.2 (by decide))]
        exact ⟨fun z => absurd z (by decide), fun z => absurd z.2 q⟩
    · rw [if_neg (show ¬ (P ∧ _) from fun z => p z.1)]
      exact ⟨fun z => absurd z (by decide), fun z => absurd z.1 p⟩
  exact key _ _
theorem nb_if (p : Nat → Bool) (n t : Nat) : nb (setN p n) t = 1 ↔ t < n ∧ p t = true := by
  rw [nb_set]
  by_cases q : t < n ∧ p t = true
  · rw [if_pos q]
    exact ⟨fun _ => q, fun _ => rfl⟩
  · rw [if_neg q]
    exact ⟨fun z => absurd z (by decide), fun z => absurd z q⟩
theorem bad_nb {S : ST} {t : Nat} (ht : t < nT S) : nb (badN S) t = 1 ↔ isBad S t := by
  have u4 : undN (kd S t) 4 = true ↔ (kd S t = 4 ∨ kd S t = 5) := by
    unfold undN
    simp
  have u3 : undN (kd S t) 3 = true ↔ kd S t = 3 := by
    unfold undN
    simp
  have st : nb (stN S) t = 1 ↔ S 6 t = -1 := by
    unfold stN ownN
    rw [nb_if]
    exact ⟨fun q => of_decide_eq_true q.2, fun q => ⟨ht, decide_eq_true q⟩⟩
  have a4 : nb (unN S 4) t = 1 ↔ (kd S t = 4 ∨ kd S t = 5) := by
    unfold unN
    rw [nb_if, u4]
    exact ⟨fun q => q.2, fun q => ⟨ht, q⟩⟩
  have a3 : nb (unN S 3) t = 1 ↔ kd S t = 3 := by
    unfold unN
    rw [nb_if, u3]
    exact ⟨fun q => q.2, fun q => ⟨ht, q⟩⟩
  unfold badN isBad
  rw [nb_ao, st, a4, a3]
  exact ⟨fun q => ⟨q.1, by rcases q.2 with (y | y) | y; exact Or.inr (Or.inl y); exact Or.inr (Or.inr y); exact Or.inl y⟩, fun q => ⟨q.1, by rcases q.2 with y | y | y; exact Or.inr y; exact Or.inl (Or.inl y); exact Or.inl (Or.inr y)⟩⟩
theorem bad_lt {S : ST} (w : WF S) : badN S < 256 := Nat.lt_of_le_of_lt Nat.and_le_left (own_lt w (-1))
theorem bad_z {S : ST} (w : WF S) : badN S = 0 ↔ ∀ t, t < nT S → ¬ isBad S t := by
  constructor
  · intro e t ht q
    have := (bad_nb ht).mpr q
    rw [e] at this
    have z : nb 0 t = 0 := by unfold nb; rw [Nat.zero_div]
    rw [z] at this
    exact absurd this (by decide)
  · intro q
    refine nb_ext (bad_lt w) (by decide) (fun t ht => ?_)
    have z : nb 0 t = 0 := by unfold nb; rw [Nat.zero_div]
    rw [z]
    have l := nb_lt (badN S) t
    by_cases y : t < nT S
    · have : nb (badN S) t ≠ 1 := fun e => q t y ((bad_nb y).mp e)
      omega
    · unfold badN
      rw [nb_and, stN_nb, if_neg (show ¬ (t < nT S ∧ S 6 t = -1) from fun q => y q.1), if_neg (show ¬ ((0 : Nat) = 1 ∧ _) from fun q => absurd q.1 (by decide))]
theorem kd_eq {S : ST} (w : WF S) {t : Nat} (ht : t < nT S) : (S 2 t = 4 ↔ kd S t = 4) ∧ (S 2 t = 5 ↔ kd S t = 5) ∧ (S 2 t = 3 ↔ kd S t = 3) := by
  obtain ⟨e, l⟩ := kd_i w ht
  have key : ∀ k : Nat, k < 6 → ((nI k = 4 ↔ k = 4) ∧ (nI k = 5 ↔ k = 5) ∧ (nI k = 3 ↔ k = 3)) := by decide
  have := key _ l
  rw [← e] at this
  exact this
theorem left_loop (H : HY T T2 h h2 N K C Z E n B R) (a y : Int32) : fx (B_X5_left_28 h2 49 a y) (0, []) ((0 : Int32), (0 : Int32)) = if badN N = 0 then (if y = (0 : Int32) then ((0 : Int32), h2) else (((((1000 : Int32) * nI (pcount 8 (stN N))) * (y - a)) / y), h2)) else F_X5_refuse h2 49 (-5 : Int32) := by
  have wf := hw H
  have n8 := nT_8 wf
  have rm := hrm H
  have bz := bad_z wf
  refine fx_forI (fun j (s : Int32 × Int32) => s.1 = nI (sumN (nb (stN N)) j) ∧ s.2 = nI j ∧ ∀ t, t < j → ¬ isBad N t) (fun r => r = if badN N = 0 then (if y = (0 : Int32) then ((0 : Int32), h2) else (((((1000 : Int32) * nI (pcount 8 (stN N))) * (y - a)) / y), h2)) else F_X5_refuse h2 49 (-5 : Int32)) (nT N) ?_ ?_ ⟨rfl, rfl, fun t ht => absurd ht (Nat.not_lt_zero _)⟩
  · rintro ⟨s1, s2⟩ ⟨e1, e2, e3⟩
    have e1 : s1 = nI (sumN (nb (stN N)) (nT N)) := e1
    have e2 : s2 = nI (nT N) := e2
    subst e1
    subst e2
    have pc : sumN (nb (stN N)) (nT N) = pcount 8 (stN N) := by
      rw [pc8_sum]
      refine (sumN_zero (fun i h1 h2 => ?_) n8).symm
      rw [stN_nb, if_neg (by omega)]
    unfold B_X5_left_28
    dsimp only
    rw [rm_n7 rm, if_neg (show ¬ nI (nT N) < N 0 7 from fun q => absurd ((lt_T wf (by omega)).mp q) (Nat.lt_irrefl _)), if_pos (bz.mpr e3), pc]
    by_cases z : y = 0
    · rw [if_pos z, if_pos z]
      exact ⟨_, rfl, rfl⟩
    · rw [if_neg z, if_neg z]
      exact ⟨_, rfl, rfl⟩
  · rintro j ⟨s1, s2⟩ hj ⟨e1, e2, e3⟩
    have e1 : s1 = nI (sumN (nb (stN N)) j) := e1
    have e2 : s2 = nI j := e2
    subst e1
    subst e2
    obtain ⟨k4, k5, k3⟩ := kd_eq wf hj
    have sn : nb (stN N) j = if N 6 j = -1 then 1 else 0 := by
      rw [stN_nb]
      by_cases q : N 6 j = -1
      · rw [if_pos (show j < nT N ∧ N 6 j = -1 from ⟨hj, q⟩), if_pos q]
      · rw [if_neg (show ¬ (j < nT N ∧ N 6 j = -1) from fun z => q z.2), if_neg q]
    have ss : sumN (nb (stN N)) (j + 1) = sumN (nb (stN N)) j + nb (stN N) j := rfl
    have ref : isBad N j → (if badN N = 0 then (if y = (0 : Int32) then ((0 : Int32), h2) else (((((1000 : Int32) * nI (pcount 8 (stN N))) * (y - a)) / y), h2)) else F_X5_refuse h2 49 (-5 : Int32)) = F_X5_refuse h2 49 (-5 : Int32) := fun q => if_neg (fun z => bz.mp z j hj q)
    have go : ¬ isBad N j → ∀ t, t < j + 1 → ¬ isBad N t := fun q t ht => by
      by_cases z : t = j
      · rw [z]
        exact q
      · exact e3 t (by omega)
    unfold B_X5_left_28
    simp only [letf]
    rw [rm_n7 rm, if_pos (show nI j < N 0 7 from (lt_T wf (by omega)).mpr hj), nI_c (by omega), rm_a6 rm hj, rm_a2 rm hj]
    by_cases q : N 6 j = -1
    · rw [if_pos q]
      by_cases q4 : N 2 j = 4
      · rw [if_pos q4, ref ⟨q, Or.inr (Or.inl (k4.mp q4))⟩]
        exact Or.inl ⟨_, rfl, rfl⟩
      · rw [if_neg q4]
        by_cases q5 : N 2 j = 5
        · rw [if_pos q5, ref ⟨q, Or.inr (Or.inr (k5.mp q5))⟩]
          exact Or.inl ⟨_, rfl, rfl⟩
        · rw [if_neg q5]
          by_cases q3 : N 2 j = 3
          · rw [if_pos q3, ref ⟨q, Or.inl (k3.mp q3)⟩]
            exact Or.inl ⟨_, rfl, rfl⟩
          · rw [if_neg q3, nI_s, nI_s]
            refine Or.inr ⟨_, rfl, ?_, rfl, go (fun z => ?_)⟩
            · rw [ss, sn, if_pos q]
            · rcases z.2 with y | y | y
              · exact q3 (k3.mpr y)
              · exact q4 (k4.mpr y)
              · exact q5 (k5.mpr y)
    · rw [if_neg q, nI_s]
      refine Or.inr ⟨_, rfl, ?_, rfl, go (fun z => q z.1)⟩
      rw [ss, sn, if_neg q]
      rfl
theorem m_left (H : HY T T2 h h2 N K C Z E n B R) (a : Int32) : PR h h2 (F_X4_left h 0 a) (F_X5_left h2 49 a) := by
  have wf := hw H
  have cc := hcc H
  have st8 : stN N < 256 := own_lt wf (-1)
  have u4 : F_X1_thingsUnder h 1 4 = nI (unN N 4) := by
    have := c_thUn cc (w := 4) (by decide)
    rw [hca H] at this
    exact this
  have u3 : F_X1_thingsUnder h 1 3 = nI (unN N 3) := by
    have := c_thUn cc (w := 3) (by decide)
    rw [hca H] at this
    exact this
  have bl := bad_lt wf
  have eb : nI (stN N) &&& (nI (unN N 4) ||| nI (unN N 3)) = nI (badN N) := by
    rw [s_or (unN_8 wf 4) (unN_8 wf 3), s_and st8 (or_8 (unN_8 wf 4) (unN_8 wf 3))]
    rfl
  have i0 : (0 : Int64).toInt = (0 : Int32).toInt := by decide
  have ie : (Int32.toInt64 (nI (inN N))).toInt = (nI (inN N)).toInt := i2l _
  unfold F_X4_left F_X5_left
  simp only [letf]
  rw [hc0 H, (h_in H).1, (h_in H).2, pair_in (a := a) i0 ie]
  by_cases w : F_X4_isWithin a 0 (nI (inN N)) = 0
  · rw [if_pos w, if_pos w]
    exact pr0 H
  · rw [if_neg w, if_neg w, left_loop H, (h_std H).1, u4, u3, eb, F_J6_eq _ st8]
    have zb : nI (badN N) = 0 ↔ badN N = 0 := nI_z (by omega)
    by_cases z : badN N = 0
    · rw [if_pos (zb.mpr z), if_pos z]
      by_cases y : nI (inN N) = 0
      · rw [if_pos y, if_pos y]
        exact pr_same H _
      · rw [if_neg y, if_neg y]
        exact pr_same H _
    · rw [if_neg (fun q => z (zb.mp q)), if_neg z]
      exact pr3 H
end
