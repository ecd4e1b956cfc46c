theorem r_under : ∀ k : Nat, k < 6 → ∀ w : Nat, w < 6 → F_X5_isUnder (nI k) (nI w) = if undN k w then 1 else 0 := by decide +kernel
section
variable {T T2 : List Nat} {h h2 h' h2' : zH} {N N' S : ST} {K : Option ST} {C Z C' Z' : Nat → Int32} {E E' : Nat → Nat → Int64} {n : Nat} {B R : Nat → Int32}
theorem says_lk (H : HY T T2 h h2 N K C Z E n B R) {t : Nat} (ht : t < nT N) (a b : Int32) : fx (B_X5_says_139 h2 49 a b (nI t)) (0, []) ((0 : Int32), (0 : Int32)) = (F_X1_likingByAll h 1 (nI t), h2) := by
  have wf := hw H
  have b4 := nB_4 wf
  have n8 := nT_8 wf
  unfold F_X1_likingByAll
  have key : (fun (r : Int32) (k : Int32 × zH) => k = (r, h2)) (fx (B_X1_likingByAll_4 h 1 (nI t)) 0 ((0 : Int32), (0 : Int32))) (fx (B_X5_says_139 h2 49 a b (nI t)) (0, []) ((0 : Int32), (0 : Int32))) := by
    refine fx_sim (fun j (s u : Int32 × Int32) => s = u ∧ s.2 = nI j) (fun (r : Int32) (k : Int32 × zH) => k = (r, h2)) (nB N) ?_ ?_ ⟨rfl, rfl⟩
    · rintro ⟨s1, s2⟩ u ⟨rfl, q⟩
      have q : s2 = nI (nB N) := q
      subst q
      have z : ¬ nI (nB N) < N 0 8 := fun y => absurd ((lt_B wf (by omega)).mp y) (Nat.lt_irrefl _)
      unfold B_X1_likingByAll_4 B_X5_says_139
      dsimp only
      rw [cm_n8 (hcm H), rm_n8 (hrm H), if_neg z, if_neg z]
      exact ⟨_, _, rfl, rfl, rfl⟩
    · rintro j ⟨s1, s2⟩ u hj ⟨rfl, q⟩
      have q : s2 = nI j := q
      subst q
      have z : nI j < N 0 8 := (lt_B wf (by omega)).mpr hj
      obtain ⟨l1, l2⟩ := h_lkN H (b := j) (t := t) hj ht
      unfold B_X1_likingByAll_4 B_X5_says_139
      simp only [letf]
      rw [cm_n8 (hcm H), rm_n8 (hrm H), if_pos z, if_pos z, nI_c (by omega), nI_c (by omega), l1, l2, nI_s]
      exact Or.inr ⟨_, _, rfl, rfl, rfl, rfl⟩
  exact key
theorem jmax_0 (x : Int32) : jmax 0 x = if 0 < x then x else 0 := rfl
theorem m_says (H : HY T T2 h h2 N K C Z E n B R) (a b : Int32) : PR h h2 (F_X4_says h 0 a b) (F_X5_says h2 49 a b) := by
  have wf := hw H
  have n8 := nT_8 wf
  have r0 := H.2.2.2.1.1.1
  have cm := hcm H
  have rm := hrm H
  have e24 : J_X5_says_j24 h2 49 a b = F_X5_refuse h2 49 (-2 : Int32) := by
    unfold J_X5_says_j24
    exact letf_id _
  have e69 : J_X5_says_j69 h2 49 a b = F_X5_refuse h2 49 (-3 : Int32) := by
    unfold J_X5_says_j69
    exact letf_id _
  unfold F_X4_says F_X5_says
  simp only [letf]
  rw [shelf_eq, shelf_in, pair_in (a := b) (lo := 0) (hi := 5) (by decide) (by decide), h31 H, hc0 H, r0.1, r0.2.2.2.2.2.1, e24, e69]
  by_cases w : F_X4_isWithin a 0 7 = 0
  · rw [if_pos w, if_pos w]
    exact pr0 H
  · rw [if_neg w, if_neg w]
    by_cases w2 : F_X4_isWithin b 0 5 = 0
    · rw [if_pos w2, if_pos w2]
      exact pr0 H
    · rw [if_neg w2, if_neg w2]
      have hs := shelf_lt w
      have v2 := win w2
      have v2 : 0 ≤ b.toInt ∧ b.toInt ≤ 5 := v2
      have bb := nI_back v2.1
      have bc := clamp_i v2.1
      generalize es : a.toNatClampNeg = s at hs ⊢
      obtain ⟨p1, p2, p3⟩ := hsh H hs
      rw [p1.1, p2]
      rcases sh_lack H hs with ⟨l1, l2, l3, l4⟩ | ⟨l1, l2, l3, l4⟩ | ⟨l1, ⟨t, t8, l5, l2⟩, l3, l4⟩
      · rw [if_pos l2, l1, if_neg (show ¬ (0 : Int32) = 1 by decide), if_neg (show ¬ (0 : Int32) = 2 by decide)]
        have e76 : J_X5_says_j76 h2 49 a b = F_X5_refuse h2 49 (-4 : Int32) := by
          unfold J_X5_says_j76
          rw [r0.1, es, l1, if_pos rfl]
          exact letf_id _
        rw [e76]
        exact pr2 H
      · have nt : ¬ isT N (C s - 10) := fun q => by
          have i10 : (10 : Int32).toInt = 10 := rfl
          have z1 : (C s - 10).toInt = (C s).toInt - (10 : Int32).toInt := i_isub (x := C s) (y := 10) (by rw [i10]; have := l2.1; omega) (by rw [i10]; have := l2.2; omega)
          rw [i10] at z1
          clear i10
          have q0 := q.1
          rw [z1] at q0
          have := l2.2
          omega
        rw [if_neg (row_m1 l2), hcT H, if_neg nt, if_pos rfl, l1, if_pos rfl]
        exact pr1 H
      · have htn : t < nT N := H.2.2.2.2.1 s hs t l2 t8
        have e10 : C s - 10 = nI t := by
          have s1 := sub_e (a := 10 + t) (b := 10) (by omega) (by omega)
          rw [Nat.add_sub_cancel_left] at s1
          rw [l2]
          exact s1
        obtain ⟨k1, k6⟩ := kd_i wf htn
        have it := isT_n wf htn
        have hu1 : F_X4_isUnder h (nI (kd N t)) b = if undN (kd N t) b.toNatClampNeg then 1 else 0 := by
          have := c_under (h := h) (k := kd N t) (w := b.toNatClampNeg) k6 (by omega)
          rw [← bb] at this
          exact this
        have hu2 : F_X5_isUnder (nI (kd N t)) b = if undN (kd N t) b.toNatClampNeg then 1 else 0 := by
          have := r_under (kd N t) k6 b.toNatClampNeg (by omega)
          rw [← bb] at this
          exact this
        rw [if_neg (show ¬ C s = -1 from by rw [l2]; exact n10 t t8), e10, hcT H, if_pos it, if_neg t10, nI_c (by omega), cm_a2 cm htn, k1, l1, if_neg (show ¬ (2 : Int32) = 1 by decide), if_pos rfl, l5, nI_c (by omega), rm_a2 rm htn, k1, hu1, hu2]
        by_cases u : undN (kd N t) b.toNatClampNeg
        · rw [if_pos u, if_neg t10, if_neg t10]
          have m20 : ¬ (2 : Int32) = 0 := by decide
          have f1 : F_X4_wordOf h 0 (nI t) b = (if b = (1 : Int32) then (if N 6 t = -1 then 1 else 0) else (if b = (2 : Int32) then N 5 t else (if b = (3 : Int32) then brN N (stN N) else (if b = (4 : Int32) then jmax 0 ((2 : Int32) * N 4 t - N 0 4) else (if b = (5 : Int32) then jmax 0 (nI (inN N) - N 0 0 / 2) else F_X1_likingByAll h 1 (nI t)))))) := by
            have fb := c_brought (hcc H)
            rw [hca H] at fb
            have gw : F_X1_goesToWait h 1 (nI t) = jmax 0 ((2 : Int32) * N 4 t - N 0 4) := by
              unfold F_X1_goesToWait
              simp only [letf]
              rw [hcT H, if_pos it, if_neg t10, nI_c (by omega), cm_a4 cm htn, cm_n4 cm]
            have gs : F_X1_slipsToSink h 1 = jmax 0 (nI (inN N) - N 0 0 / 2) := by
              unfold F_X1_slipsToSink
              simp only [letf]
              rw [(h_in H).1, cm_n0 cm]
            have ga : letf (F_X4_asNumber (F_X1_stands h 1 (nI t))) (fun y6 => y6) = if N 6 t = -1 then 1 else 0 := by
              rw [letf_id, h_stands H htn]
              unfold F_X4_asNumber
              by_cases y : N 6 t = -1
              · rw [if_pos y, if_neg t10]
              · rw [if_neg y, if_pos rfl]
            unfold F_X4_wordOf
            rw [hc0 H, nI_c (by omega), cm_a5 cm htn]
            exact ifc (fun _ => ga) (fun _ => ifc (fun _ => rfl) (fun _ => ifc (fun _ => (letf_id _).trans fb) (fun _ => ifc (fun _ => (letf_id _).trans gw) (fun _ => ifc (fun _ => (letf_id _).trans gs) (fun _ => letf_id _)))))
          have f2 : J_X5_says_j76 h2 49 a b = (F_X4_wordOf h 0 (nI t) b, h2) := by
            rw [f1]
            unfold J_X5_says_j76
            rw [r0.1, r0.2.2.2.2.2.1, es, l1, l5, if_neg m20, nI_c (by omega), says_lk H htn, rm_a6 rm htn, rm_a5 rm htn, rm_a4 rm htn, rm_n4 rm, rm_n0 rm]
            have c1 : b = 0 ∨ b = 1 ∨ b = 2 ∨ b = 3 ∨ b = 4 ∨ b = 5 := by
              have key : ∀ k : Nat, k < 6 → (nI k = 0 ∨ nI k = 1 ∨ nI k = 2 ∨ nI k = 3 ∨ nI k = 4 ∨ nI k = 5) := by decide
              rw [bb]
              exact key _ (by omega)
            rcases c1 with y | y | y | y | y | y
            · rw [y, if_pos rfl, if_neg (by decide), if_neg (by decide), if_neg (by decide), if_neg (by decide), if_neg (by decide)]
            · rw [y, if_neg (by decide), if_pos rfl, if_pos rfl]
              by_cases z : N 6 t = -1
              · rw [if_pos z, if_pos z]
                rfl
              · rw [if_neg z, if_neg z]
                rfl
            · rw [y, if_neg (by decide), if_neg (by decide), if_pos rfl, if_neg (by decide), if_pos rfl]
            · have k3 : kd N t = 3 := by
                have b3 : b.toNatClampNeg = 3 := by
                  rw [y]
                  decide
                rw [b3] at u
                unfold undN at u
                have : ∀ k : Nat, k < 6 → ((3 == 0 || k == 3 || (3 == 1 && k == 3) || (3 == 4 && k == 5)) = true) → k = 3 := by decide
                exact this _ k6 u
              have st8 : stN N < 256 := own_lt wf (-1)
              have rb := r_brought (hrc H) (t := t) (m := stN N) (by rw [hra H]; exact htn) (by rw [hra H]; exact k3) st8
              rw [hra H] at rb
              rw [y, if_neg (by decide), if_neg (by decide), if_neg (by decide), if_pos rfl, if_neg (by decide), if_neg (by decide), if_pos rfl]
              have q : letf (F_X5_standing h2 49) (fun y => letf (F_X5_brought h2 49 (nI t) y) (fun z => (z, h2))) = (brN N (stN N), h2) := by
                simp only [letf]
                rw [(h_std H).2, rb]
              exact q
            · have n40 : ¬ (4 : Int32) = 0 := by decide
              have n41 : ¬ (4 : Int32) = 1 := by decide
              have n42 : ¬ (4 : Int32) = 2 := by decide
              have n43 : ¬ (4 : Int32) = 3 := by decide
              have n44 : (4 : Int32) = 4 := rfl
              rw [y, if_neg n40, if_neg n41, if_neg n41, if_neg n42, if_neg n42, if_neg n43, if_neg n43, if_pos n44, if_pos n44, jmax_0]
              generalize (2 : Int32) * N 4 t - N 0 4 = x
              by_cases z : 0 < x
              · rw [if_pos z, if_pos z]
                rfl
              · rw [if_neg z, if_neg z]
                rfl
            · have n40 : ¬ (5 : Int32) = 0 := by decide
              have n41 : ¬ (5 : Int32) = 1 := by decide
              have n42 : ¬ (5 : Int32) = 2 := by decide
              have n43 : ¬ (5 : Int32) = 3 := by decide
              have n44 : ¬ (5 : Int32) = 4 := by decide
              have n55 : (5 : Int32) = 5 := rfl
              rw [y, if_neg n40, if_neg n41, if_neg n41, if_neg n42, if_neg n42, if_neg n43, if_neg n43, if_neg n44, if_neg n44, if_pos n55, jmax_0]
              simp only [letf]
              rw [(h_in H).2]
              generalize nI (inN N) - N 0 0 / 2 = x
              by_cases z : 0 < x
              · rw [if_pos z, if_pos z]
                rfl
              · rw [if_neg z, if_neg z]
                rfl
          rw [f2]
          exact pr_same H _
        · rw [if_neg u, if_pos rfl, if_pos rfl]
          exact pr1 H
end
