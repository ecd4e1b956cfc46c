section
variable {T T2 : List Nat} {h h2 h' h2' : zH} {N N' S : ST} {K : Option ST} {C Z C' Z' : Nat → Int32} {E E' : Nat → Nat → Int64} {n : Nat} {B R : Nat → Int32} {p : Nat}
/-- a kept block's types -/
theorem rlay_6 (K0 : hOK kty T h) (tp : T[p]? = some 6) (l : rLy h p) : RLay T h p := by
  have key : ∀ o ∈ rOff, o.1 < (zty 6).2.1 ∧ ((zty 6).2.2 o.1).1 = 4 ∧ ((zty 6).2.2 o.1).2.2.2.1 = o.2.2 := by decide
  have t1 : ∀ o ∈ rOff, T[p + o.2.1]? = some o.2.2 := fun o ho => by
    obtain ⟨a, b, c⟩ := key o ho
    have := (k_rf K0 tp a b).2
    rw [l.1 o ho, c] at this
    exact this
  have t38 : T[p + 24]? = some 38 := t1 (25, 24, 38) (by decide)
  refine ⟨Or.inr tp, fun o ho => ⟨l.1 o ho, t1 o ho⟩, fun b hb => ⟨l.2 b hb, ?_⟩⟩
  have := (k_rf K0 t38 (i := b) hb rfl).2
  rw [l.2 b hb] at this
  exact this
theorem bkS_row {C : Nat → Int32} {lim : Int32} {s : Nat} (r : isRow (bkS C lim s)) : bkS C lim s = C s := by
  unfold bkS at r ⊢
  by_cases c : C s < lim
  · rw [if_pos c]
  · rw [if_neg c] at r
    exact absurd rfl (row_m1 r)
theorem back_cx (K0 : hOK kty T h) (ce : tExt zT0 T) (x : CX h N K C Z E n B R) (lim : Int32) : CX (bkC h C lim 8) N K (bkS C lim) Z E n B R ∧ fr49 h (bkC h C lim 8) := by
  have hs : ∀ s, s < 8 → hget h (33 + 2 * s) 0 = some (.inl (.int (C s))) := fun s hs => by
    have g := k_int K0 (zT_at ce (tS s hs).1) (i := 0) (by decide) rfl
    rw [(x.2.2.2.2.2.2.2 s hs).2.1] at g
    exact g
  refine cx_sh x (fun m i hm => bkC_ne 8 (Or.inr (fun s hs => by omega))) (fun s hs8 => ?_)
  obtain ⟨p1, p2, p3⟩ := x.2.2.2.2.2.2.2 s hs8
  refine ⟨⟨(hr_eq (bkC_ne 8 (Or.inr (fun s hs => by omega)))).trans p1.1, (hr_eq (bkC_ne 8 (Or.inl (by decide)))).trans p1.2⟩, bkC_at hs 8 (Nat.le_refl _) s hs8, fun r => ?_⟩
  rw [bkS_row r] at r
  exact ⟨(hv_eq (bkC_ne 8 (Or.inl (by decide)))).trans (p3 r).1, fun i hi => (hJ_eq (bkC_ne 8 (Or.inr (fun s hs => by omega)))).trans ((p3 r).2 i hi)⟩
theorem back_lim {m : Nat} (hm : m ≤ 8) {lim : Int32} (el : lim = nI (10 + m)) : (-1 : Int32) < lim ∧ (∀ x : Int32, isRow x → x < lim) ∧ ∀ t : Nat, t < 8 → (nI (10 + t) < lim ↔ t < m) := by
  have lt : lim.toInt = ((10 + m : Nat) : Int) := by
    rw [el, nI_t (by omega)]
  refine ⟨?_, fun x r => ?_, fun t ht => ?_⟩
  · rw [i_lt, lt, show (-1 : Int32).toInt = -1 from rfl]
    omega
  · have r2 := r.2
    rw [i_lt, lt]
    omega
  · rw [i_lt, lt, nI_t (by omega)]
    omega
theorem back_rx (K0 : hOK kty T h) (ce : tExt zT0 T) (x : RX h N K C Z E n B R) {m : Nat} (hm : m ≤ 8) {lim : Int32} (el : lim = nI (10 + m)) : RX (bkR h m 8) N K (bkS C lim) Z E n B R ∧ fr0 h (bkR h m 8) := by
  obtain ⟨b1, b2, b3⟩ := back_lim hm el
  have g : ∀ s, s < 8 → ∃ w, hget h 50 s = some w := fun s hs => ⟨_, k_int K0 (zT_at ce (q := 50) (τ := 24) rfl) (i := s) hs rfl⟩
  refine rx_sh x (fun q i hq => bkR_ne 8 (Or.inl (by omega))) (fun s hs => ?_)
  have e0 := bkR_at (m := m) g 8 (Nat.le_refl _) s hs
  have e1 : hv (bkR h m 8) 51 s = hv h 51 s := hv_eq (bkR_ne 8 (Or.inl (by decide)))
  have e2 : hv (bkR h m 8) 52 s = hv h 52 s := hv_eq (bkR_ne 8 (Or.inl (by decide)))
  have e3 : hv (bkR h m 8) 63 s = hv h 63 s := hv_eq (bkR_ne 8 (Or.inl (by decide)))
  have e4 : ∀ i, hJ (bkR h m 8) (54 + s) i = hJ h (54 + s) i := fun i => hJ_eq (bkR_ne 8 (Or.inl (by omega)))
  rcases x.2.2.2.2.2.2 s hs with ⟨a, b⟩ | ⟨a, b, c, d, e, f⟩ | ⟨a, t, t8, c, d⟩
  · rw [a, if_neg (show ¬ ((0 : Int32) = 2 ∧ ¬ hv h 63 s < nI m) from fun y => absurd y.1 (by decide))] at e0
    refine Or.inl ⟨e0, ?_⟩
    unfold bkS
    rw [b, if_pos b1]
  · rw [a, if_neg (show ¬ ((1 : Int32) = 2 ∧ ¬ hv h 63 s < nI m) from fun y => absurd y.1 (by decide))] at e0
    have es : bkS C lim s = C s := if_pos (b2 _ b)
    refine Or.inr (Or.inl ⟨e0, by rw [es]; exact b, c, ?_, e2.trans e, fun i hi => (e4 i).trans (f i hi)⟩)
    rw [e1, es]
    exact d
  · by_cases y : t < m
    · have z : hv h 63 s < nI m := by
        rw [c, i_lt, nI_t (by omega), nI_t (by omega)]
        omega
      rw [if_neg (show ¬ (hv h 50 s = 2 ∧ ¬ hv h 63 s < nI m) from fun q => q.2 z)] at e0
      have es : bkS C lim s = C s := if_pos (by rw [d]; exact (b3 t t8).mpr y)
      refine Or.inr (Or.inr ⟨e0.trans a, t, t8, e3.trans c, es.trans d⟩)
    · have z : ¬ hv h 63 s < nI m := by
        rw [c, i_lt, nI_t (by omega), nI_t (by omega)]
        omega
      rw [if_pos (show hv h 50 s = 2 ∧ ¬ hv h 63 s < nI m from ⟨a, z⟩)] at e0
      refine Or.inl ⟨e0, ?_⟩
      have nc : ¬ C s < lim := by
        rw [d]
        exact fun q => y ((b3 t t8).mp q)
      unfold bkS
      rw [if_neg nc]
theorem m_back0 (H : HY T T2 h h2 N K C Z E n B R) (e : hget h2 49 26 = some (.inl .null)) : PR h h2 (F_X4_back h 0) (F_X5_back0 h2 49) := by
  have hk : hv h 0 7 = 0 := by
    rcases H.2.2.2.1.2.2.1 with y | ⟨q, S, y1, y2, y3, -⟩
    · rcases H.2.1.2.2.1.2 with z | ⟨z, S, z2, -⟩
      · exact z.1
      · rw [y.2] at z2
        cases z2
    · rw [e] at y1
      cases y1
  unfold F_X4_back F_X5_back0
  simp only [letf]
  rw [if_pos hk]
  exact pr3 H
theorem m_backA (H : HY T T2 h h2 N K C Z E n B R) (e : hget h2 49 26 = some (.inl (.ref p))) : PR h h2 (F_X4_back h 0) (F_X5_backA h2 49) := by
  have wf := hw H
  obtain ⟨S, y2, y3, y4, y5, y6, y7⟩ : ∃ S, 79 ≤ p ∧ K = some S ∧ rLy h2 p ∧ rAbs h2 p = S ∧ WF S ∧ rBt h2 p := by
    rcases H.2.2.2.1.2.2.1 with y | ⟨q, S, y1, y2⟩
    · rw [y.1] at e
      cases e
    · rw [y1] at e
      cases e
      exact ⟨S, y2⟩
  obtain ⟨z0, z1, z2, z3⟩ : hv h 0 7 ≠ 0 ∧ cAbs h 9 = S ∧ WF S ∧ cInv h 9 := by
    rcases H.2.1.2.2.1.2 with z | ⟨z, S', z2, z3⟩
    · rw [y3] at z
      cases z.2
    · rw [y3] at z2
      cases z2
      exact ⟨z, z3⟩
  have e26 := hr_of e
  have tp := nul_ref H.2.2.1.2.2.2.1 e
  have rcp : RC T2 h2 p := ⟨H.2.2.1.1, rlay_6 H.2.2.1.1 tp y4, by rw [y5]; exact y6, y7⟩
  have cc9 : CC T h 9 := ⟨H.1.1, clay_of H.1.2 (Or.inr (Or.inl rfl)) H.2.1.2.2.1.1, by rw [z1]; exact z2, z3⟩
  have m1 := cm_become (CC_CR (hcc H)) (sO_r 1 8 h) cc9 (Or.inr (by decide))
  rw [z1] at m1
  have m2 := rm_take (RC_RR (hrc H)) (sQ_r 49 h2) rcp (Or.inr (by omega))
  rw [y5] at m2
  obtain ⟨x1, f1⟩ := cx_now H.2.1 m1 y6
  obtain ⟨x2, f2⟩ := rx_now H.2.2.2.1 m2 y6
  have k1 := (CM_CC m1 y6).1.1
  have k2 := (RM_RC m2 y6).1.1
  have n8 := nT_8 y6
  have e7 : S 0 7 = nI (nT S) := nI_back (WF_th y6).1
  have el : (10 : Int32) + S 0 7 = nI (10 + nT S) := by
    rw [e7, show (10 : Int32) = nI 10 from rfl, nI_add]
  have hs : ∀ s, s < 8 → hr (F_X1_become h 1 9) 31 s = 33 + 2 * s ∧ hget (F_X1_become h 1 9) (33 + 2 * s) 0 = some (.inl (.int (C s))) := fun s hs => by
    have g := k_int k1 (zT_at H.1.2 (tS s hs).1) (i := 0) (by decide) rfl
    rw [(x1.2.2.2.2.2.2.2 s hs).2.1] at g
    exact ⟨(x1.2.2.2.2.2.2.2 s hs).1.1, g⟩
  unfold F_X4_back F_X5_backA
  simp only [letf]
  rw [if_neg z0, hc0 H, H.2.1.1.2.1, e26, back_c (lim := 10 + S 0 7) rfl x1.1.2.2.2.2.2.1 x1.1.1 (cm_n7 m1) hs, back_r (m := nT S) x2.1.1.1 x2.1.1.2.2.2.2.2.1 ((rm_n7 m2).trans e7)]
  obtain ⟨q1, q2⟩ := back_cx k1 H.1.2 x1 (10 + S 0 7)
  obtain ⟨q3, q4⟩ := back_rx k2 H.2.2.1.2.1 x2 n8 el
  refine ⟨1, S, K, _, Z, E, n, B, R, ⟨rfl, q1, fun m i hm => (q2 m i hm).trans (f1 m i hm)⟩, ⟨rfl, q3, fr0_t f2 q4⟩, fun s hs t ht t8 => ?_, H.2.2.2.2.2.2 S y3, H.2.2.2.2.2.2⟩
  unfold bkS at ht
  by_cases c : C s < 10 + S 0 7
  · rw [if_pos c] at ht
    rw [ht] at c
    exact ((back_lim n8 el).2.2 t t8).mp c
  · rw [if_neg c] at ht
    exact absurd ht.symm (n10 t t8)
end
