section
variable {T T2 Tv : List Nat} {h h2 h' h'' hv0 k0 kb k' : zH} {N S S' : ST} {K : Option ST} {C Z : Nat → Int32} {E : Nat → Nat → Int64} {n e nt : Nat} {B R D : Nat → Int32} {p : Nat}
/-- the class's object behind the reading of a text -/
theorem cx_rd (x : CX h N K C Z E n B R) (c : CQ T h B n h') : CX h' N K C Z E n B R ∧ fr49 h h' := by
  obtain ⟨x0, x1, x2, x3, x4, x5, x6, x7⟩ := x
  obtain ⟨c1, c2, c3, c4⟩ := c
  have er : ∀ a b, (b ≤ 17 ∨ (25 ≤ a ∧ (b ≤ 29 ∨ 30 ≤ a))) → eqR a b h h' := fun a b d m i h1 h2 => c3 m i (by omega) (by omega)
  exact ⟨⟨c0P_eq (er _ _ (by decide)) x0, cNP_eq (er _ _ (by decide)) x1, cKP_eq (hv_eq (c3 0 7 (by decide) (by decide))) (er _ _ (by decide)) x2, fun o ho => (c1.2.1.2 o ho).1, cHP_eq (er _ _ (by decide)) x4, c2, cFP_eq (er _ _ (by decide)) x6, cSP_eq (er _ _ (by decide)) (er _ _ (by decide)) x7⟩, fun m i hm => c3 m i (by omega) (by omega)⟩
/-- the reference behind it -/
theorem rx_rd (x : RX k0 N K C Z E n B R) (f : fb k0 kb) (q : RQ T2 kb B n S D k') : RX k' S K C Z E n B R ∧ fr0 k0 k' := by
  obtain ⟨x0, x1, x2, x3, x5, x6, x7⟩ := x
  obtain ⟨q1, q2, q3, q4, q5, q6, q7⟩ := q
  have e : ∀ m i, (m ≤ 65 ∨ m = 73 ∨ 79 ≤ m) → ¬ (m = 49 ∧ (i = 9 ∨ i = 10 ∨ i = 11 ∨ i = 12 ∨ i = 13 ∨ i = 14 ∨ i = 15 ∨ i = 17 ∨ i = 23 ∨ i = 34 ∨ (28 ≤ i ∧ i ≤ 32))) → hget k' m i = hget k0 m i := fun m i h1 h2 => (q4 m i (fun ⟨d, e1, hc⟩ => rc_no (by omega) (by omega) hc) (by omega) (by omega)).trans (f m i (by omega))
  exact ⟨⟨r0P_eq (fun i hi => e 49 i (by omega) (by omega)) (fun i _ => e 53 i (by omega) (by omega)) x0, q2, rKP_eq (e 49 26 (by omega) (by omega)) (fun m i hm => e m i (by omega) (by omega)) x2, rXP_eq (e 49 26 (by omega) (by omega)) (e 49 27 (by omega) (by omega)) (e 49 35 (by omega) (by omega)) (fun m i hm => e m i (by omega) (by omega)) x3, ⟨q3.2.1, q3.2.2.2⟩, rFP_eq (fun i => e 65 i (by omega) (by omega)) x6, rSP_eq (fun m i hm => e m i (by omega) (by omega)) x7⟩, fun m i hm => e m i (by omega) (by omega)⟩
theorem r_rf0c {T : List Nat} {h : zH} (ce : CE T h) (x : RX h N K C Z E n B R) : rO h N K C Z E n B (rfR R 0) (-2) (F_X5_refuse h 49 (-2 : Int32)) ∧ ∀ i, hv (F_X5_refuse h 49 (-2 : Int32)).2 49 i = hv h 49 i := by
  have e : F_X5_refuse h 49 (-2 : Int32) = ((-2 : Int32), hput h 65 (0 + 2) (.inl (.int (hv h 65 (0 + 2) + 1)))) := by
    have h2 : (-(-2 : Int32)).toNatClampNeg = 0 + 2 := by decide
    unfold F_X5_refuse
    simp only [letf]
    rw [x.1.1.2.2.2.2.2.2.2.1, h2]
  have t65 := zT_at ce.2 (q := 65) (τ := 30) rfl
  have g := k_int ce.1 t65 (i := 0 + 2) (by decide) rfl
  rw [e]
  refine ⟨⟨rfl, rx_rf x (fun m i hm => hget_put_ne (Or.inl hm)) (fun i hi => ?_)⟩, fun i => hv_ne (Or.inl (by decide))⟩
  unfold rfR
  by_cases y : i = 0
  · rw [if_pos y, y, hv_put g]
    exact congrArg (· + 1) (x.2.2.2.2.2.1 0 (by decide))
  · rw [if_neg y, hv_ne (Or.inr (by omega))]
    exact x.2.2.2.2.2.1 i hi
theorem m_stallG (H : HY T T2 h h2 N K C Z E n B R) (ce : tExt zT0 Tv) (Kv : hOK kty Tv hv0) (x : RX hv0 N K C Z E n B R) (fr : fr0 h2 hv0) (e27 : hget hv0 49 27 = some (.inl (.ref p))) (hp : 79 ≤ p) (tp : Tv[p]? = some 6) (s26 : ∀ q : Nat, hget hv0 49 26 = some (.inl (.ref q)) → ∀ d d', d < 29 → d' < 29 → q + d ≠ p + d') (s35 : ∀ q : Nat, hget hv0 49 35 = some (.inl (.ref q)) → ∀ d, d < 29 → q ≠ p + d) (e33 : hr hv0 49 33 = 78) : PR h h2 (F_X4_stall h 0) (letf (J_X5_freshA_j18 hv0 49) (fun y1 => (letf (F_X5_readAll y1.2 49) (fun y2 => (letf (hput y2.2 49 7 (.inl (.int (0 : Int32)))) (fun h3 => (if y2.1 = (0 : Int32) then (letf (F_X5_takeFrom_56 h3 49 y1.1) (fun h4 => (letf (F_X5_refuse h4 49 (-2 : Int32)) (fun y5 => (((-20 : Int32) - (hv y5.2 49 32)), y5.2))))) else ((hv h3 49 34), h3)))))))) := by
  have wN := hw H
  have xC := H.2.1
  have tpc := xC.2.2.2.2.2.1
  have l : rLy hv0 p := by
    rcases x.2.2.2.1.1 with y | ⟨q, y1, y2, y3, y4⟩
    · rw [y] at e27
      cases e27
    · rw [y1] at e27
      cases e27
      exact y3
  have rc : RC Tv hv0 49 := ⟨Kv, rlay_49 ce x.2.1.1, by rw [x.2.1.2.1]; exact wN, x.2.1.2.2.2⟩
  have rm := rm_take ⟨Kv, rlay_6 Kv tp l, rfl⟩ (sQ_r p hv0) rc (Or.inl (by omega))
  rw [x.2.1.2.1] at rm
  obtain ⟨k1, k2, k3⟩ := RM_RC rm wN
  obtain ⟨d3, d4⟩ := fr_rx x e27 hp k1 (fun m i _ y2 => sQ_out k3 y2) s26 s35
  have eF : J_X5_freshA_j18 hv0 49 = (p, F_X5_takeFrom_56 hv0 p 49) := by
    unfold J_X5_freshA_j18
    simp only [letf]
    have e : hr (F_X5_takeFrom_56 hv0 p 49) 49 27 = p := (hr_eq (sQ_out k3 (fun d hd => by omega))).trans (hr_of e27)
    rw [hr_of e27, take_65, e]
  have e33' : hr (F_X5_takeFrom_56 hv0 p 49) 49 33 = 78 := (hr_eq (sQ_out k3 (fun d hd => by omega))).trans e33
  rw [eF]
  generalize F_X5_takeFrom_56 hv0 p 49 = kt at k1 k2 k3 d3 d4 e33' ⊢
  have h64 := d3.1.1.2.2.2.2.2.2.1
  have qR : RQ Tv kt B n N (fun i => hv kt 78 i) kt := ⟨k1.1, d3.2.1, ⟨h64, d3.2.2.2.2.1.1, tpc.2.2.1, d3.2.2.2.2.1.2⟩, fun _ _ _ _ _ => rfl, e33', fun _ _ => rfl, ce⟩
  have cr17 : CR T h 17 (fun d i => hv h (17 + d) i) (hJ h 17 7) := ⟨H.1.1, clay_of H.1.2 (Or.inr (Or.inr rfl)) xC.2.2.2.1, rfl, rfl⟩
  have m1 := cm_become cr17 (sO_r 17 8 h) (hcc H) (Or.inl (by decide))
  rw [hca H] at m1
  obtain ⟨b1, b2, b3⟩ := CM_CC m1 wN
  have qC : CQ T h B n (F_X1_become h 17 1) := ⟨b1, ⟨(hr_eq (b3 29 0 (by decide))).trans tpc.1, (hv_eq (b3 29 1 (by decide))).trans tpc.2.1, tpc.2.2.1, fun i hi => (hv_eq (b3 30 i (by decide))).trans (tpc.2.2.2 i hi)⟩, fun m i h1 _ => b3 m i (by omega), H.1.2 _ _ rfl⟩
  have key := s_read qC b2 qR rfl (hO H) (Nat.le_refl (nT N))
  have c4 : hr h 0 4 = 29 := xC.1.2.2.2.2.1
  have g4 : hr (F_X1_become h 17 1) 0 4 = 29 := (hr_eq (b3 0 4 (by decide))).trans c4
  have g2 : hr (F_X1_become h 17 1) 0 2 = 17 := (hr_eq (b3 0 2 (by decide))).trans xC.1.2.2.1
  have eC : F_X4_stall h 0 = letf (F_X2_readInto (F_X1_become h 17 1) 29 17) (fun y6 => (letf (hput y6.2 (hr y6.2 0 4) 1 (.inl (.int (0 : Int32)))) (fun h8 => (if y6.1 < (0 : Int32) then (letf (F_X4_refuse h8 0 (-2 : Int32)) (fun y12 => (y6.1, y12.2))) else (letf (F_X1_become h8 (hr h8 0 0) (hr h8 0 2)) (fun h11 => (y6.1, h11))))))) := by
    unfold F_X4_stall
    simp only [letf]
    rw [hc0 H, xC.1.2.2.1, g4, g2]
  rw [eC]
  clear eC eF
  simp only [letf]
  generalize F_X2_readInto (F_X1_become h 17 1) 29 17 = r at key ⊢
  generalize F_X5_readAll kt 49 = k at key ⊢
  obtain ⟨r1, r2⟩ := r
  obtain ⟨y1, y2⟩ := k
  have n250 := tpc.2.2.1
  have t20 : (-20 : Int32).toInt = -20 := rfl
  obtain ⟨kb, f0, key⟩ := key
  dsimp only at key ⊢
  have cw : ∀ {u : zH}, CQ T h B n u → CX (hput u 29 1 (.inl (.int (0 : Int32)))) N K C Z E 0 B R ∧ fr49 h (hput u 29 1 (.inl (.int (0 : Int32)))) ∧ hr u 0 4 = 29 ∧ CC T (hput u 29 1 (.inl (.int (0 : Int32)))) 17 ∧ cAbs (hput u 29 1 (.inl (.int (0 : Int32)))) 17 = cAbs u 17 := fun {u} c => by
    obtain ⟨x1, x2⟩ := cx_rd xC c
    have t29 := zT_at H.1.2 (q := 29) (τ := 2) rfl
    have g := k_int c.1.1 t29 (i := 1) (by decide) rfl
    obtain ⟨a1, a2⟩ := cx_tp (n' := 0) (B' := B) x1 (sO_put (q := 29) (d := 0) (w := 2) (i := 1) (v := .inl (.int 0)) (by decide)) ⟨(hr_ne (Or.inr (by decide))).trans c.2.1.1, (hv_put g).trans rfl, by decide, fun i hi => absurd hi (by omega)⟩
    obtain ⟨u1, u2⟩ := CC_same c.1 (k_put c.1.1 t29 rfl (i := 1) 0) (tExt_rf T) (fun d i hd => hget_put_ne (Or.inl (by omega)))
    exact ⟨a1, fr49_t x2 a2, x1.1.2.2.2.2.1, u1, u2⟩
  have rw0 : ∀ {u : zH} {S : ST} {D : Nat → Int32}, RQ Tv kb B n S D u → RX (hput u 49 7 (.inl (.int (0 : Int32)))) S K C Z E 0 B R ∧ fr0 h2 (hput u 49 7 (.inl (.int (0 : Int32)))) ∧ hOK kty Tv (hput u 49 7 (.inl (.int (0 : Int32)))) := fun {u S D} q => by
    obtain ⟨x1, x2⟩ := rx_rd d3 f0 q
    have t49 : Tv[49]? = some 5 := ce _ _ rfl
    have g := k_int q.1 t49 (i := 7) (by decide) rfl
    obtain ⟨a1, a2⟩ := rx_tp (n' := 0) (B' := B) x1 (h' := hput u 49 7 (.inl (.int 0))) (fun m i u1 u2 => hget_put_ne (by omega)) ⟨(hv_put g).trans rfl, fun i hi => absurd hi (by omega)⟩
    exact ⟨a1, fr0_t fr (fr0_t d4 (fr0_t x2 a2)), k_put q.1 t49 rfl 0⟩
  rcases key with ⟨a1, f, f1, a2, a3, ⟨S, D, a4⟩, a5⟩ | ⟨a1, S, c, e, D, c1, a2, a3, a4, a5, a6, a7⟩
  · subst a1
    subst a2
    obtain ⟨x1, x2, x3, x4, x5⟩ := cw a3
    obtain ⟨z1, z2, z3⟩ := rw0 a4
    have neg : (-20 : Int32) - nI f < 0 := by
      rw [i_lt, e0, i_isub (by rw [t20, nI_t (by omega)]; omega) (by rw [t20, nI_t (by omega)]; omega), t20, nI_t (by omega)]
      omega
    rw [if_pos rfl, x3, if_pos neg]
    have ep : ∀ d i, d < 29 → hget (hput y2 49 7 (.inl (.int (0 : Int32)))) (p + d) i = hget kt (p + d) i := fun d i hd => by
      rw [hget_put_ne (Or.inl (by omega))]
      exact (a4.2.2.2.1 _ i (fun ⟨d', e1, hc⟩ => by have := rCell_b hc; omega) (by omega) (by omega)).trans (f0 _ i (by omega))
    obtain ⟨w1, w2⟩ := RC_same k1 z3 (tExt_rf Tv) ep
    have v32 : hv (hput y2 49 7 (.inl (.int (0 : Int32)))) 49 32 = nI f := (hv_ne (Or.inr (by decide))).trans a5
    generalize hput y2 49 7 (.inl (.int (0 : Int32))) = h3 at z1 z2 z3 w1 w2 v32 ⊢
    have mt := rm_take ⟨z3, rlay_49 ce z1.2.1.1, rfl⟩ (sQ_r 49 h3) w1 (Or.inr (by omega))
    rw [w2, k2] at mt
    obtain ⟨v1, v2⟩ := rx_now z1 mt wN
    have v3 := RM_OK mt
    obtain ⟨v4, v5, v6⟩ := RM_RC mt wN
    have v7 : hv (F_X5_takeFrom_56 h3 49 p) 49 32 = nI f := (hv_eq (sQ_at v6 (by omega) (by omega))).trans v32
    generalize F_X5_takeFrom_56 h3 49 p = h4 at v1 v2 v3 v7 ⊢
    obtain ⟨⟨o1, o2, o3⟩, o4⟩ := r_rf0c ⟨v3, ce⟩ v1
    obtain ⟨i1, i2, i3⟩ := c_rf0 ⟨x4.1, H.1.2⟩ x1
    rw [o4 32, v7]
    exact ⟨_, N, K, C, Z, E, 0, B, _, ⟨rfl, i2, fr49_t x2 i3⟩, ⟨rfl, o2, fr0_t z2 (fr0_t v2 o3)⟩, H.2.2.2.2⟩
  · subst a1
    subst a2
    obtain ⟨x1, x2, x3, x4, x5⟩ := cw a4.1
    obtain ⟨z1, z2, z3⟩ := rw0 a5.1
    have w' := cp_w a4
    have neg : ¬ nI c < 0 := fun y => by
      rw [i_lt, e0, nI_t (by omega)] at y
      omega
    have v34 : hv (hput y2 49 7 (.inl (.int (0 : Int32)))) 49 34 = nI c := (hv_ne (Or.inr (by decide))).trans ((rp_h34 a5).trans a3)
    rw [if_neg t10, x3, if_neg neg, v34]
    rw [a4.2.1] at x5
    generalize hput y2 49 7 (.inl (.int (0 : Int32))) = h3 at z1 z2 z3 ⊢
    generalize hput r2 29 1 (.inl (.int (0 : Int32))) = h8 at x1 x2 x4 x5 ⊢
    rw [x1.1.1, x1.1.2.2.1]
    have cr1 : CR T h8 1 (fun d i => hv h8 (1 + d) i) (hJ h8 1 7) := ⟨x4.1, clay_of H.1.2 (Or.inl rfl) x1.2.1.1, rfl, rfl⟩
    have m2 := cm_become cr1 (sO_r 1 8 _) x4 (Or.inr (by decide))
    rw [x5] at m2
    obtain ⟨j1, j2⟩ := cx_now x1 m2 w'
    generalize F_X1_become h8 1 17 = h9 at j1 j2 ⊢
    refine ⟨_, S, K, C, Z, E, 0, B, R, ⟨rfl, j1, fr49_t x2 j2⟩, ⟨rfl, z1, z2⟩, ⟨fun s hs u hu u8 => Nat.lt_of_lt_of_le (H.2.2.2.2.1 s hs u hu u8) a7, a6, H.2.2.2.2.2.2⟩⟩
theorem m_stallA (H : HY T T2 h h2 N K C Z E n B R) (e : hget h2 49 27 = some (.inl (.ref p))) : PR h h2 (F_X4_stall h 0) (F_X5_stallA h2 49) := by
  obtain ⟨r1, r2, r3, r4, r5, r6⟩ := H.2.2.1
  have tp := nul_ref r5 e
  have x3 := H.2.2.2.1.2.2.2.1
  obtain ⟨hp, ne⟩ : 79 ≤ p ∧ hget h2 49 26 ≠ some (.inl (.ref p)) := by
    rcases x3.1 with y | ⟨q, u1, u2, u3, u4⟩
    · rw [y] at e
      cases e
    · rw [u1] at e
      cases e
      exact ⟨u2, u4⟩
  exact m_stallG H r2 r1 H.2.2.2.1 fr0_r e hp tp (fun q hq => bt_sep r3 tp (nul_ref r4 hq) (fun z => ne (by rw [← z]; exact hq))) (fun q hq => bt_41 r3 tp (nul_ref r6 hq)) H.2.2.2.1.1.1.2.2.2.2.2.2.2.2
theorem m_stallB (H : HY T T2 h h2 N K C Z E n B R) (hl : T2.length ≤ 900000) : PR h h2 (F_X4_stall h 0) (F_X5_stallB h2 49) := by
  obtain ⟨k1, k2, k3, k4, k5, k6, k7, k8, k9⟩ := rx_hM27 H.2.2.1 H.2.2.2.1 hl
  exact m_stallG H k2 k1 k3 k4 k5 k6 k7 k8 k9 k3.1.1.2.2.2.2.2.2.2.2
end
