section
variable {T T2 : List Nat} {h h2 h' h2' : zH} {N N' S : ST} {K : Option ST} {C Z C' Z' : Nat → Int32} {E E' : Nat → Nat → Int64} {n : Nat} {B R : Nat → Int32} {p : Nat}
theorem sQ_out {q m i : Nat} (s : sQ q h h') (o : ∀ d, d < 29 → m ≠ q + d) : hget h' m i = hget h m i := s m i (fun ⟨d, e, hc⟩ => by
  by_cases y : d < 29
  · exact o d y e
  · exact rc_no (Or.inl (by omega)) (by omega) hc)
theorem image_gen (K0 : hOK kty T h) (ce : tExt zT0 T) (x0 : r0P h) (x1 : rNP h N) (x5 : rTP h n B) (x6 : rFP h R) (x7 : rSP h C Z E) (e26 : hget h 49 26 = some (.inl (.ref p))) (hp : 79 ≤ p) (tp : T[p]? = some 6) (l : rLy h p) (x27 : hget h 49 27 = some (.inl .null) ∨ ∃ q : Nat, hget h 49 27 = some (.inl (.ref q)) ∧ 79 ≤ q ∧ rLy h q ∧ ∀ d d', d < 29 → d' < 29 → q + d ≠ p + d') (x35 : hget h 49 35 = some (.inl .null) ∨ ∃ q : Nat, hget h 49 35 = some (.inl (.ref q)) ∧ 79 ≤ q ∧ (∀ g, g < 62 → hr h q g = q + 1 + g) ∧ ∀ d, d < 29 → q ≠ p + d) : ∃ h', J_X5_imageA_j18 h 49 = ((1 : Int32), h') ∧ RX h' N (some N) C Z E n B R ∧ fr0 h h' := by
  have rc : RC T h 49 := ⟨K0, rlay_49 ce x1.1, by rw [x1.2.1]; exact x1.2.2.1, x1.2.2.2⟩
  have m := rm_take ⟨K0, rlay_6 K0 tp l, rfl⟩ (sQ_r p h) rc (Or.inl (by omega))
  rw [x1.2.1] at m
  obtain ⟨c, a, s⟩ := RM_RC m x1.2.2.1
  have lo : ∀ m i, m < 79 → hget (F_X5_takeFrom_56 h p 49) m i = hget h m i := fun m i hm => sQ_out s (fun d hd => by omega)
  refine ⟨_, ?_, ⟨r0P_eq (fun i hi => lo _ _ (by decide)) (fun i _ => lo _ _ (by decide)) x0, rNP_eq (fun m i q1 q2 => lo m i (by omega)) x1, Or.inr ⟨p, N, (lo _ _ (by decide)).trans e26, hp, rfl, ⟨fun o ho => (c.2.1.2.1 o ho).1, fun b hb => (c.2.1.2.2 b hb).1⟩, a, x1.2.2.1, c.2.2.2⟩, ⟨?_, ?_⟩, rTP_eq (lo _ _ (by decide)) (fun i => lo _ _ (by decide)) x5, rFP_eq (fun i => lo _ _ (by decide)) x6, rSP_eq (fun m i hm => lo m i (by omega)) x7⟩, fun m i hm => lo m i (by omega)⟩
  · unfold J_X5_imageA_j18
    simp only [letf]
    rw [hr_of e26, take_65]
  · rw [lo 49 26 (by decide), lo 49 27 (by decide), e26]
    rcases x27 with y | ⟨q, y1, y2, y3, y4⟩
    · exact Or.inl y
    · refine Or.inr ⟨q, y1, y2, rLy_blk (fun d i hd => sQ_out s (fun d' hd' => y4 d d' hd hd')) y3, fun z => ?_⟩
      cases z
      exact y4 0 0 (by decide) (by decide) rfl
  · rw [lo 49 35 (by decide)]
    rcases x35 with y | ⟨q, y1, y2, y3, y4⟩
    · exact Or.inl y
    · exact Or.inr ⟨q, y1, y2, fun g hg => (hr_eq (sQ_out s (fun d hd => y4 d hd))).trans (y3 g hg)⟩
/-- two blocks don't meet -/
theorem bt_sep (bt : ∀ q, T[q]? = some 6 → BT T q) {q : Nat} (tp : T[p]? = some 6) (tq : T[q]? = some 6) (hn : q ≠ p) : ∀ d d', d < 29 → d' < 29 → q + d ≠ p + d' := by
  intro d d' hd hd' e
  by_cases y : q < p
  · obtain ⟨τ, a1, -, -, a4⟩ := bt q tq (p - q) (by omega)
    rw [show q + (p - q) = p by omega, tp] at a1
    cases a1
    exact a4 (by omega) rfl
  · obtain ⟨τ, a1, -, -, a4⟩ := bt p tp (q - p) (by omega)
    rw [show p + (q - p) = q by omega, tq] at a1
    cases a1
    exact a4 (by omega) rfl
theorem bt_41 (bt : ∀ q, T[q]? = some 6 → BT T q) {q : Nat} (tp : T[p]? = some 6) (tq : T[q]? = some 41) : ∀ d, d < 29 → q ≠ p + d := by
  intro d hd e
  obtain ⟨τ, a1, a2, -, -⟩ := bt p tp d (by omega)
  rw [← e, tq] at a1
  cases a1
  exact a2 rfl
theorem image_c (H : HY T T2 h h2 N K C Z E n B R) : ∃ h', F_X4_image h 0 = ((1 : Int32), h') ∧ CX h' N (some N) C Z E n B R ∧ fr49 h h' := by
  obtain ⟨x0, x1, x2, x3, x4, x5, x6, x7⟩ := H.2.1
  have cr9 : CR T h 9 (fun d i => hv h (9 + d) i) (hJ h 9 7) := ⟨H.1.1, clay_of H.1.2 (Or.inr (Or.inl rfl)) x2.1, rfl, rfl⟩
  have m := cm_become cr9 (sO_r 9 8 h) (hcc H) (Or.inl (by decide))
  rw [hca H] at m
  obtain ⟨c, a, s⟩ := CM_CC m x1.2.2.1
  have g := k_int H.1.1 (zT_at H.1.2 (q := 0) (τ := 4) rfl) (i := 7) (by decide) rfl
  have g' : hget (F_X1_become h 9 1) 0 7 = some (.inl (.int (hv h 0 7))) := (s 0 7 (by decide)).trans g
  have e : ∀ a b, (1 ≤ a ∧ b ≤ 9 ∨ 17 ≤ a) → eqR a b h (hput (F_X1_become h 9 1) 0 7 (.inl (.int 1))) := fun a b hab m i h1 h2 => (hget_put_ne (Or.inl (by omega))).trans (s m i (by omega))
  have e0 : ∀ i, i ≠ 7 → hr (hput (F_X1_become h 9 1) 0 7 (.inl (.int 1))) 0 i = hr h 0 i := fun i hi => hr_eq ((hget_put_ne (Or.inr hi)).trans (s 0 i (by decide)))
  have e9 : ∀ d i, d < 8 → hget (hput (F_X1_become h 9 1) 0 7 (.inl (.int 1))) (9 + d) i = hget (F_X1_become h 9 1) (9 + d) i := fun d i hd => hget_put_ne (Or.inl (by omega))
  refine ⟨hput (F_X1_become h 9 1) 0 7 (.inl (.int 1)), ?_, ⟨?_, cNP_eq (e 1 9 (by decide)) x1, ?_, cRP_eq (e 17 18 (by decide)) x3, cHP_eq (e 25 29 (by decide)) x4, cTP_eq (e 29 31 (by decide)) x5, cFP_eq (e 32 33 (by decide)) x6, cSP_eq (e 31 32 (by decide)) (e 33 49 (by decide)) x7⟩, fun m i hm => (hget_put_ne (Or.inl (by omega))).trans (s m i (by omega))⟩
  · unfold F_X4_image
    simp only [letf]
    rw [x0.2.1, x0.1]
  · unfold c0P
    rw [e0 0 (by decide), e0 1 (by decide), e0 2 (by decide), e0 3 (by decide), e0 4 (by decide), e0 5 (by decide), e0 6 (by decide)]
    exact x0
  · have ca : cAbs (hput (F_X1_become h 9 1) 0 7 (.inl (.int 1))) 9 = cAbs (F_X1_become h 9 1) 9 := cAbs_same e9
    refine ⟨fun o ho => (hr_eq (e9 0 o.1 (by decide))).trans (c.2.1.2 o ho).1, Or.inr ⟨?_, N, rfl, ca.trans a, x1.2.2.1, ?_⟩⟩
    · rw [hv_put g']
      decide
    · exact cInv_same e9 c.2.2.2
theorem m_imageA (H : HY T T2 h h2 N K C Z E n B R) (e : hget h2 49 26 = some (.inl (.ref p))) : PR h h2 (F_X4_image h 0) (F_X5_imageA h2 49) := by
  obtain ⟨h', c1, c2, c3⟩ := image_c H
  obtain ⟨r1, r2, r3, r4, r5, r6⟩ := H.2.2.1
  obtain ⟨x0, x1, x2, x3, x5, x6, x7⟩ := H.2.2.2.1
  obtain ⟨S, y2, y3, y4, y5, y6, y7⟩ : ∃ S, 79 ≤ p ∧ K = some S ∧ rLy h2 p ∧ rAbs h2 p = S ∧ WF S ∧ rBt h2 p := by
    rcases x2 with y | ⟨q, S, y1, y2⟩
    · rw [y.1] at e
      cases e
    · rw [y1] at e
      cases e
      exact ⟨S, y2⟩
  have tp := nul_ref r4 e
  obtain ⟨h'', q1, q2, q3⟩ := image_gen r1 r2 x0 x1 x5 x6 x7 e y2 tp y4 (by
    rcases x3.1 with y | ⟨q, u1, u2, u3, u4⟩
    · exact Or.inl y
    · exact Or.inr ⟨q, u1, u2, u3, bt_sep r3 tp (nul_ref r5 u1) (fun z => u4 (by rw [z]; exact e))⟩) (by
    rcases x3.2 with y | ⟨q, u1, u2, u3⟩
    · exact Or.inl y
    · exact Or.inr ⟨q, u1, u2, u3, bt_41 r3 tp (nul_ref r6 u1)⟩)
  unfold F_X5_imageA
  rw [c1, q1]
  exact ⟨1, N, some N, C, Z, E, n, B, R, ⟨rfl, c2, c3⟩, ⟨rfl, q2, q3⟩, H.2.2.2.2.1, hO H, fun S e => by cases e; exact hO H⟩
end
