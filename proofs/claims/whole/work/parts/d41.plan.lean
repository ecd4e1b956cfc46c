section
variable {T T2 : List Nat} {h h2 h' h2' : zH} {N N' S : ST} {K : Option ST} {C Z : Nat → Int32} {E : Nat → Nat → Int64} {n : Nat} {B R : Nat → Int32}
theorem tT_of (ce : tExt zT0 T) : tT T := ⟨ce _ _ rfl, ce _ _ rfl, ce _ _ rfl, ce _ _ rfl⟩
theorem h_lo (H : HY T T2 h h2 N K C Z E n B R) : N 1 0 = 0 ∧ ∀ i, nS N < i → N 1 i = 0 := by
  have e := hca H
  refine ⟨by rw [← e]; exact cAbs_10 h 1, fun i hi => ?_⟩
  rw [← e] at hi ⊢
  exact cAbs_hi h 1 i hi
/-- the thought of all, and of some goes -/
theorem h_fill (H : HY T T2 h h2 N K C Z E n B R) {b dep : Nat} {pr : Int32} (hb : b < nB N) (hpr : 0 ≤ pr.toInt ∧ pr.toInt ≤ 99) (hd : dep ≤ inN N) : (∃ A M, TH T h (F_X3_fill h 25 1 (nI b) (nI dep) pr) (lkNs N) A M (joy N b) ∧ (∀ m, m < 256 → A m = iZ (vcl N b pr.toInt dep 0 m)) ∧ ∀ g m, g ≤ 60 → m < 256 → mkB M g m = decide (0 < vcl N b pr.toInt dep g m)) ∧ CX (F_X3_fill h 25 1 (nI b) (nI dep) pr) N K C Z E n B R ∧ fr49 h (F_X3_fill h 25 1 (nI b) (nI dep) pr) := by
  have x := H.2.1
  have e := hca H
  have th := th_of H.1.1 x.2.2.2.2.1.1
  have key := c_fill (T := T) (b := b) (dep := dep) (pr := pr) (tT_of H.1.2) th (hcc H) (by decide) (by rw [e]; exact hb) x.2.2.2.2.1.2 hpr (by rw [e]; exact hd)
  rw [e] at key
  obtain ⟨A, M, k1, k2, k3⟩ := key
  have j0 : joy N b 0 = 0 := by
    unfold joy
    rw [lkN_0]
    rfl
  have c := cx_th x k1.2.1 ⟨k1.2.2.1, (k1.2.2.2.2.2.2 0 (by decide)).trans j0⟩
  exact ⟨⟨A, M, k1, k2, k3⟩, c.1, c.2⟩
theorem h_all (H : HY T T2 h h2 N K C Z E n B R) (b : Int32) : F_X3_thinkOfAll h 25 1 b = F_X3_fill h 25 1 b (nI (inN N)) (N 0 2) := by
  unfold F_X3_thinkOfAll
  simp only [letf]
  rw [(h_in H).1, cm_n2 (hcm H)]
theorem h_goes (H : HY T T2 h h2 N K C Z E n B R) (b : Int32) {m : Nat} (hm : m ≤ 8) : F_X3_thinkOfGoes h 25 1 b (nI m) = F_X3_fill h 25 1 b (nI (min m (inN N))) 0 := by
  have h60 := inN_60 (hw H) (h_lo H).1
  have e : jmin (nI m) (nI (inN N)) = nI (min m (inN N)) := by
    unfold jmin
    by_cases y : nI (inN N) < nI m
    · rw [if_pos y]
      rw [i_lt, nI_t (by omega), nI_t (by omega)] at y
      congr 1
      omega
    · rw [if_neg y]
      rw [i_lt, nI_t (by omega), nI_t (by omega)] at y
      congr 1
      omega
  unfold F_X3_thinkOfGoes
  simp only [letf]
  rw [(h_in H).1, e]
/-- the reference's table, while it is looked up -/
def VS (T : List Nat) (N : ST) (p b L : Nat) (hs h' : zH) : Prop := ∃ h1 Tb, RC T h1 49 ∧ rAbs h1 49 = N ∧ VL T h1 p ∧ VP h1 b L ∧ RV T h1 h' p Tb ∧ MP N b L Tb ∧ r5s hs h1 p
theorem vs_begin {p b L : Nat} (ce : tExt zT0 T) (K0 : hOK kty T h) (rn : rNP h N) (vl : VL T h p) : VS T N p b L h (J_X5_beginValuesA_j20 h 49 (nI b) (nI L)) := by
  have h5 : T[49]? = some 5 := ce _ _ rfl
  have rc : RC T h 49 := ⟨K0, rlay_49 ce rn.1, by rw [rn.2.1]; exact rn.2.2.1, rn.2.2.2⟩
  have hp := vl.2.1
  obtain ⟨h1, e, k1, k2, k3, k4⟩ := r_begin rc h5 vl (nI b) (nI L)
  rw [e]
  have rn1 : rNP h1 N := rNP_eq (fun m i q1 q2 => k2 m i (by omega) (fun y => by have := q1 y; omega)) rn
  have rc1 : RC T h1 49 := ⟨k1, rlay_49 ce rn1.1, by rw [rn1.2.1]; exact rn1.2.2.1, rn1.2.2.2⟩
  rw [rn.2.1] at k4
  refine ⟨h1, fun g i => hJ h1 (p + 1 + g) i, rc1, rn1.2.1, ⟨(hr_eq (k2 49 35 (by omega) (fun _ => by omega))).trans vl.1, hp, fun g hg => ⟨(hr_eq (k2 p g (by omega) (fun y => by omega))).trans (vl.2.2 g hg).1, (vl.2.2 g hg).2⟩⟩, ?_, ⟨k1, fun _ _ _ => rfl, fun _ _ _ _ => rfl⟩, fun g m hg hm => Or.inl (k3 g hg m hm), k2⟩
  unfold VP
  rw [rn1.2.1]
  exact k4
theorem vs_value {p b L : Nat} {hs : zH} (v : VS T N p b L hs h) (w : WF N) (hb : b < nB N) (hL : L ≤ 61) {g m D : Nat} (hg : g ≤ L) (hD : 130 ≤ D) (hi : inT N m) (hin : g ≤ inN N) (hp : pcount 8 m ≤ inN N - g) : ∃ h', F_X5_valueAt D h 49 (nI m) (nI g) = (lZ (rvl N b L g m), h') ∧ VS T N p b L hs h' := by
  obtain ⟨h1, Tb, v1, v2, v3, v4, v5, v6, v7⟩ := v
  subst v2
  obtain ⟨h', Tb', q1, q2, q3⟩ := r_value v1 v3 v4 hb hL (L - g) g m D h Tb (by omega) (by omega) hi hin hp v5 v6
  exact ⟨h', q1, h1, Tb', v1, rfl, v3, v4, q2, q3, v7⟩
theorem vs_rc {p b L : Nat} {hs : zH} (v : VS T N p b L hs h) : RC T h 49 ∧ rAbs h 49 = N ∧ hv h 49 38 = nI (inN N) := by
  obtain ⟨h1, Tb, v1, v2, v3, v4, v5, v6, v7⟩ := v
  obtain ⟨a1, a2⟩ := rv_rc v1 v3 v5
  refine ⟨a1, a2.trans v2, ?_⟩
  have := v4.2.2.1
  rw [v2] at this
  exact (rv_49 v3 v5 38).trans this
/-- the object behind it -/
theorem vs_rx {p b L : Nat} {hs : zH} (v : VS T N p b L hs h) (hq : ∀ q, hget hs 49 26 = some (.inl (.ref q)) → ∀ d, d < 29 → ¬ (p < q + d ∧ q + d ≤ p + 62)) (hq2 : ∀ q, hget hs 49 27 = some (.inl (.ref q)) → ∀ d, d < 29 → ¬ (p < q + d ∧ q + d ≤ p + 62)) (x : RX hs N K C Z E n B R) : RX h N K C Z E n B R ∧ fr0 hs h := by
  obtain ⟨h1, Tb, v1, v2, v3, v4, v5, v6, v7⟩ := v
  have hp := v3.2.1
  have s : ∀ m i, ¬ (p < m ∧ m ≤ p + 62) → (m = 49 → i < 36 ∨ 39 < i) → hget h m i = hget hs m i := fun m i a1 a2 => (v5.2.1 m i a1).trans (v7 m i a1 a2)
  obtain ⟨x0, x1, x2, x3, x5, x6, x7⟩ := x
  refine ⟨⟨r0P_eq (fun i hi => s 49 i (by omega) (fun _ => by omega)) (fun i _ => s 53 i (by omega) (fun y => absurd y (by decide))) x0, rNP_eq (fun m i q1 q2 => s m i (by omega) (fun y => by have := q1 y; omega)) x1, ?_, ?_, rTP_eq (s 49 7 (by omega) (fun _ => by omega)) (fun i => s 64 i (by omega) (fun y => absurd y (by decide))) x5, rFP_eq (fun i => s 65 i (by omega) (fun y => absurd y (by decide))) x6, rSP_eq (fun m i hm => s m i (by omega) (fun y => by omega)) x7⟩, fun m i hm => s m i (by omega) (fun y => by omega)⟩
  · rcases x2 with ⟨y, z⟩ | ⟨q, S, y1, y2, y3, y4, y5, y6, y7⟩
    · exact Or.inl ⟨by rw [s 49 26 (by omega) (fun _ => by omega)]; exact y, z⟩
    · have eb : ∀ d i, d < 29 → hget h (q + d) i = hget hs (q + d) i := fun d i hd => s (q + d) i (hq q y1 d hd) (fun y => by omega)
      have b4 := nB_4 y6
      refine Or.inr ⟨q, S, by rw [s 49 26 (by omega) (fun _ => by omega)]; exact y1, y2, y3, rLy_blk eb y4, ?_, y6, rBt_blk eb y7⟩
      rw [← y5]
      refine rAbs_same ?_ eb
      rw [← y5] at b4
      exact b4
  · refine ⟨?_, ?_⟩
    · rw [s 49 26 (by omega) (fun _ => by omega), s 49 27 (by omega) (fun _ => by omega)]
      rcases x3.1 with y | ⟨q, y1, y2, y3, y4⟩
      · exact Or.inl y
      · exact Or.inr ⟨q, y1, y2, rLy_blk (fun d i hd => s (q + d) i (hq2 q y1 d hd) (fun y => by omega)) y3, y4⟩
    · rw [s 49 35 (by omega) (fun _ => by omega)]
      rcases x3.2 with y | ⟨q, y1, y2, y3⟩
      · exact Or.inl y
      · have eq : q = p := by
          have e1 := v3.1
          have e2 := s 49 35 (by omega) (fun _ => by omega)
          have e3 : hr h1 49 35 = q := by
            have := v7 49 35 (by omega) (fun _ => by omega)
            rw [y1] at this
            unfold hr
            rw [this]
          exact e3.symm.trans e1
        subst eq
        exact Or.inr ⟨q, y1, y2, fun g hg => (hr_eq (s q g (by omega) (fun y => by omega))).trans (y3 g hg)⟩
/-- the two values are one -/
theorem val_plan (H : HY T T2 h h2 N K C Z E n B R) (b g m : Nat) (hg : g ≤ inN N) (hs : sDiff m (stN N) = 0) (hp : pcount 8 m ≤ inN N - g) : vcl N b (N 0 2).toInt (inN N) g m = rvl N b 61 g m := by
  have h60 := inN_60 (hw H) (h_lo H).1
  unfold vcl rvl prL
  rw [if_pos ⟨hs, hp⟩, if_pos (show 60 < 61 by decide)]
  exact VV_more (hw H) b _ _ _ _ _ _ (Nat.le_refl _) (by omega) hp
theorem val_mean (H : HY T T2 h h2 N K C Z E n B R) (b m : Nat) (hm : m ≤ 8) : vcl N b 0 (min m (inN N)) 0 (stN N) = rvl N b m 0 (stN N) := by
  have h60 := inN_60 (hw H) (h_lo H).1
  have st := st_in (hw H) (h_lo H).1 (h_lo H).2
  unfold vcl rvl prL
  rw [if_pos ⟨sub_rf (stN N), by omega⟩, if_neg (show ¬ 60 < m by omega)]
  by_cases y : m ≤ inN N
  · rw [Nat.min_eq_left y]
  · rw [Nat.min_eq_right (by omega)]
    exact VV_more (hw H) b _ _ _ _ _ _ (Nat.le_refl _) (by omega) (by omega)
end
