section
variable {T T2 Tv : List Nat} {h h2 h' h2' hv0 h3 t0 t : zH} {N N' S : ST} {K : Option ST} {C Z C' Z' : Nat → Int32} {E E' : Nat → Nat → Int64} {n : Nat} {B R : Nat → Int32} {p : Nat}
theorem fr_rx (x : RX hv0 N K C Z E n B R) (e27 : hget hv0 49 27 = some (.inl (.ref p))) (hp : 79 ≤ p) (r : RC Tv t p) (f : FR hv0 p t) (s26 : ∀ q : Nat, hget hv0 49 26 = some (.inl (.ref q)) → ∀ d d', d < 29 → d' < 29 → q + d ≠ p + d') (s35 : ∀ q : Nat, hget hv0 49 35 = some (.inl (.ref q)) → ∀ d, d < 29 → q ≠ p + d) : RX t N K C Z E n B R ∧ fr0 hv0 t := by
  obtain ⟨x0, x1, x2, x3, x5, x6, x7⟩ := x
  have e : ∀ m i, m < 79 → ¬ (m = 49 ∧ i = 40) → hget t m i = hget hv0 m i := fun m i hm hn => f m i hn (fun d hd => by omega)
  refine ⟨⟨r0P_eq (fun i hi => e 49 i (by omega) (by omega)) (fun i _ => e 53 i (by omega) (by omega)) x0, rNP_eq (fun m i q1 q2 => e m i (by omega) (fun y => by have := q1 y.1; omega)) x1, ?_, ⟨?_, ?_⟩, rTP_eq (e 49 7 (by omega) (by omega)) (fun i => e 64 i (by omega) (by omega)) x5, rFP_eq (fun i => e 65 i (by omega) (by omega)) x6, rSP_eq (fun m i hm => e m i (by omega) (by omega)) x7⟩, fun m i hm => e m i (by omega) (by omega)⟩
  · rcases x2 with ⟨y, z⟩ | ⟨q, S, y1, y2, y3, y4, y5, y6, y7⟩
    · exact Or.inl ⟨by rw [e 49 26 (by omega) (by omega)]; exact y, z⟩
    · have sp := s26 q y1
      have eb : ∀ d i, d < 29 → hget t (q + d) i = hget hv0 (q + d) i := fun d i hd => f _ i (by omega) (fun d' hd' => sp d d' hd hd')
      have b4 := nB_4 y6
      refine Or.inr ⟨q, S, by rw [e 49 26 (by omega) (by omega)]; exact y1, y2, y3, rLy_blk eb y4, ?_, y6, rBt_blk eb y7⟩
      rw [← y5]
      refine rAbs_same ?_ eb
      rw [← y5] at b4
      exact b4
  · rw [e 49 26 (by omega) (by omega), e 49 27 (by omega) (by omega)]
    refine Or.inr ⟨p, e27, hp, ⟨fun o ho => (r.2.1.2.1 o ho).1, fun b hb => (r.2.1.2.2 b hb).1⟩, fun y => ?_⟩
    exact s26 p y 0 0 (by decide) (by decide) rfl
  · rw [e 49 35 (by omega) (by omega)]
    rcases x3.2 with y | ⟨q, y1, y2, y3⟩
    · exact Or.inl y
    · exact Or.inr ⟨q, y1, y2, fun g hg => (hr_eq (f q g (by omega) (s35 q y1))).trans (y3 g hg)⟩
/-- both sides' trial, from the start -/
theorem trial_run (H : HY T T2 h h2 N K C Z E n B R) (ce : tExt zT0 Tv) (Kv : hOK kty Tv hv0) (x : RX hv0 N K C Z E n B R) (e27 : hget hv0 49 27 = some (.inl (.ref p))) (hp : 79 ≤ p) (tp : Tv[p]? = some 6) (s26 : ∀ q : Nat, hget hv0 49 26 = some (.inl (.ref q)) → ∀ d d', d < 29 → d' < 29 → q + d ≠ p + d') (s35 : ∀ q : Nat, hget hv0 49 35 = some (.inl (.ref q)) → ∀ d, d < 29 → q ≠ p + d) {a m : Int32} (wa : ¬ F_X4_isWithin a 0 7 = 0) (l1 : hv hv0 50 a.toNatClampNeg = 1) (wm : ¬ F_X4_isWithin m 0 40 = 0) (hz : m.toInt ≤ (Z a.toNatClampNeg).toInt) : ∃ S r k, F_X4_firstWrong h 0 a m 0 = r ∧ letf (J_X5_freshA_j18 hv0 49) (fun y1 => (letf (hput y1.2 49 40 (.inl (.int (0 : Int32)))) (fun h2 => (fx (B_X5_wrongInA_13 49 (54 + a.toNatClampNeg) m y1.1) (0, []) ((0 : Int32), h2))))) = k ∧ r.1 = k.1 ∧ CX r.2 N K C Z E n B R ∧ fr49 h r.2 ∧ RX k.2 N K C Z E n B R ∧ fr0 hv0 k.2 ∧ CM T 17 h S r.2 ∧ WF S ∧ hv k.2 49 40 = nI (sDiff (stN N) (stN S)) ∧ ∃ Tw, hOK kty Tw k.2 ∧ tExt zT0 Tw := by
  have hs := shelf_lt wa
  have v := win wm
  have v : 0 ≤ m.toInt ∧ m.toInt ≤ 40 := v
  have l : rLy hv0 p := by
    rcases x.2.2.2.1.1 with y | ⟨q, y1, y2, y3, y4⟩
    · rw [y] at e27
      cases e27
    · rw [y1] at e27
      cases e27
      exact y3
  have rc : RC Tv hv0 49 := ⟨Kv, rlay_49 ce x.2.1.1, by rw [x.2.1.2.1]; exact x.2.1.2.2.1, x.2.1.2.2.2⟩
  have rm := rm_take ⟨Kv, rlay_6 Kv tp l, rfl⟩ (sQ_r p hv0) rc (Or.inl (by omega))
  rw [x.2.1.2.1] at rm
  obtain ⟨k1, k2, k3⟩ := RM_RC rm x.2.1.2.2.1
  have t49 : Tv[49]? = some 5 := ce _ _ rfl
  have g40 := k_int k1.1 t49 (i := 40) (by decide) rfl
  obtain ⟨k4, k5⟩ := RC_same k1 (k_put k1.1 t49 (i := 40) rfl 0) (tExt_rf Tv) (fun d i hd => hget_put_ne (Or.inl (by omega)))
  have cr17 : CR T h 17 (fun d i => hv h (17 + d) i) (hJ h 17 7) := ⟨H.1.1, clay_of H.1.2 (Or.inr (Or.inr rfl)) H.2.1.2.2.2.1, rfl, rfl⟩
  have m1 := cm_become cr17 (sO_r 17 8 h) (hcc H) (Or.inl (by decide))
  rw [hca H] at m1
  have key := trial_sim H ce x hp hs l1 v hz rfl wa m1 k4 (k5.trans k2) (fun q i y1 y2 => by rw [hget_put_ne (by omega), sQ_out k3 y2]) (hv_put g40)
  obtain ⟨q1, S, q2, q3, q4, q5, q6, q7⟩ := key
  obtain ⟨c1, c2, c3⟩ := CM_CC q2 q3
  obtain ⟨d1, d2⟩ := cx_tr H.2.1 c3 c1.2.1
  obtain ⟨d3, d4⟩ := fr_rx x e27 hp q4 q5 s26 s35
  refine ⟨S, _, _, ?_, ?_, q1, d1, d2, d3, d4, q2, q3, q6, Tv, q4.1, ce⟩
  · unfold F_X4_firstWrong
    simp only [letf]
    rw [hc0 H, H.2.1.1.2.2.1]
  · unfold J_X5_freshA_j18
    simp only [letf]
    have e : hr (F_X5_takeFrom_56 hv0 p 49) 49 27 = p := (hr_eq (sQ_out k3 (fun d hd => by omega))).trans (hr_of e27)
    rw [hr_of e27, take_65, e]
end
