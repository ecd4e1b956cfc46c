noncomputable def gPlan (D : Nat) (h : zH) (a : Int32) : Int32 × zH := letf (J_X5_beginValuesA_j20 h 49 a (61 : Int32)) (fun h1 => (letf (F_X5_standing h1 49) (fun y2 => (letf (F_X5_valueAt (D - 1) h1 49 y2 (0 : Int32)) (fun y3 => ((Int64.toInt32 y3.1), y3.2))))))
noncomputable def gMean (D : Nat) (h : zH) (a m : Int32) : Int64 × zH := letf (J_X5_beginValuesA_j20 h 49 a m) (fun h1 => (letf (F_X5_standing h1 49) (fun y2 => (letf (F_X5_valueAt (D - 1) h1 49 y2 (0 : Int32)) (fun y3 => (y3.1, y3.2))))))
theorem JNA_eq : J_X5_beginValuesNA_j20 = J_X5_beginValuesA_j20 := rfl
/-- where the table stands -/
def VC (T : List Nat) (h : zH) (p : Nat) : Prop := VL T h p ∧ (∀ q, hget h 49 26 = some (.inl (.ref q)) → ∀ d, d < 29 → ¬ (p < q + d ∧ q + d ≤ p + 62)) ∧ ∀ q, hget h 49 27 = some (.inl (.ref q)) → ∀ d, d < 29 → ¬ (p < q + d ∧ q + d ≤ p + 62)
section
variable {T T2 Tv : List Nat} {h h2 h' h2' hv0 : zH} {N N' S : ST} {K : Option ST} {C Z : Nat → Int32} {E : Nat → Nat → Int64} {n : Nat} {B R : Nat → Int32} {p : Nat}
theorem g_plan (ce : tExt zT0 Tv) (K0 : hOK kty Tv hv0) (x : RX hv0 N K C Z E n B R) (vc : VC Tv hv0 p) {b D : Nat} (hb : b < nB N) (hD : 140 ≤ D) : ∃ h', gPlan D hv0 (nI b) = (iZ (rvl N b 61 0 (stN N)), h') ∧ RX h' N K C Z E n B R ∧ fr0 hv0 h' ∧ VS Tv N p b 61 hv0 h' := by
  have w := x.2.1.2.2.1
  have st : stN N < 256 := own_lt w (-1)
  have v1 := vs_begin (b := b) (L := 61) ce K0 x.2.1 vc.1
  obtain ⟨r1, r2, -⟩ := vs_rc v1
  have es := r_std r1
  rw [r2] at es
  have lo : N 1 0 = 0 ∧ ∀ i, nS N < i → N 1 i = 0 := by
    rw [← r2]
    exact ⟨rAbs_10 _ _, rAbs_hi _ _⟩
  have sti := st_in w lo.1 lo.2
  obtain ⟨h', q1, q2⟩ := vs_value v1 w hb (by decide) (g := 0) (m := stN N) (D := D - 1) (Nat.zero_le _) (by omega) (inT_st w) (Nat.zero_le _) (by omega)
  obtain ⟨x1, x2⟩ := vs_rx q2 vc.2.1 vc.2.2 x
  have pb := prL_b w 61
  have vb := VV_b w b (pr := prL N 61) pb.1 (61 - 0) (N 0 4 + nI 0) (inN N - 0) (stN N)
  have vb : 0 ≤ rvl N b 61 0 (stN N) ∧ rvl N b 61 0 (stN N) ≤ 7992000 * ((61 : Nat) : Int) := vb
  refine ⟨h', ?_, x1, x2, q2⟩
  unfold gPlan
  simp only [letf]
  have e61 : (61 : Int32) = nI 61 := rfl
  have e0 : (0 : Int32) = nI 0 := rfl
  rw [e61, es, e0, q1, lZ_i32 (by omega) (by omega)]
theorem g_mean (ce : tExt zT0 Tv) (K0 : hOK kty Tv hv0) (x : RX hv0 N K C Z E n B R) (vc : VC Tv hv0 p) {b m D : Nat} (hb : b < nB N) (hm : m ≤ 8) (hD : 140 ≤ D) : ∃ h', gMean D hv0 (nI b) (nI m) = (lZ (rvl N b m 0 (stN N)), h') ∧ RX h' N K C Z E n B R ∧ fr0 hv0 h' := by
  have w := x.2.1.2.2.1
  have st : stN N < 256 := own_lt w (-1)
  have v1 := vs_begin (b := b) (L := m) ce K0 x.2.1 vc.1
  obtain ⟨r1, r2, -⟩ := vs_rc v1
  have es := r_std r1
  rw [r2] at es
  have lo : N 1 0 = 0 ∧ ∀ i, nS N < i → N 1 i = 0 := by
    rw [← r2]
    exact ⟨rAbs_10 _ _, rAbs_hi _ _⟩
  have sti := st_in w lo.1 lo.2
  obtain ⟨h', q1, q2⟩ := vs_value v1 w hb (by omega) (g := 0) (m := stN N) (D := D - 1) (Nat.zero_le _) (by omega) (inT_st w) (Nat.zero_le _) (by omega)
  obtain ⟨x1, x2⟩ := vs_rx q2 vc.2.1 vc.2.2 x
  refine ⟨h', ?_, x1, x2⟩
  unfold gMean
  simp only [letf]
  have e0 : (0 : Int32) = nI 0 := rfl
  rw [es, e0, q1]
theorem cx_c0 (f : sO 25 4 h h') (i : Nat) : hr h' 0 i = hr h 0 i := hr_eq (f 0 i (by decide))
/-- plan -/
theorem m_plan (H : HY T T2 h h2 N K C Z E n B R) (a : Int32) (rr rest : Int32 × zH) (hr0 : rr = letf (F_X5_isBuyer h2 49 a) (fun y1 => (if y1 = (0 : Int32) then (letf (F_X5_refuse h2 49 (-2 : Int32)) (fun y2 => (y2.1, y2.2))) else (letf rest (fun y3 => (y3.1, y3.2)))))) (hrest : isB N a → ∃ h', rest = (iZ (rvl N a.toNatClampNeg 61 0 (stN N)), h') ∧ RX h' N K C Z E n B R ∧ fr0 h2 h') : PR h h2 (F_X4_plan h 0 a) rr := by
  have wf := hw H
  have h3 : hr h 0 3 = 25 := H.2.1.1.2.2.2.1
  rw [hr0]
  unfold F_X4_plan
  simp only [letf]
  rw [hc0 H, hcB H, hrB H, h3]
  by_cases b : isB N a
  · rw [if_pos b, if_neg t10, if_neg t10]
    have bc := isB_c b
    obtain ⟨h', r1, r2, r3⟩ := hrest b
    rw [r1]
    have hpr := wf.1.2.2.1
    obtain ⟨⟨A, M, k1, k2, k3⟩, x1, x2⟩ := h_fill H (b := a.toNatClampNeg) (dep := inN N) (pr := N 0 2) bc.1 (by omega) (Nat.le_refl _)
    rw [← bc.2] at k1 x1 x2
    have e := h_all H a
    rw [e, cx_c0 k1.2.1, h3, c_valueNow wf k1 k2, val_plan H _ 0 (stN N) (Nat.zero_le _) (sub_rf _) (by have := st_in wf (h_lo H).1 (h_lo H).2; omega)]
    exact ⟨_, N, K, C, Z, E, n, B, R, ⟨rfl, x1, x2⟩, ⟨rfl, r2, r3⟩, H.2.2.2.2⟩
  · rw [if_neg b, if_pos rfl, if_pos rfl]
    exact pr0 H
theorem m_planA (H : HY T T2 h h2 N K C Z E n B R) (vc : VC T2 h2 p) {D : Nat} (hD : 150 ≤ D) (a : Int32) : PR h h2 (F_X4_plan h 0 a) (F_X5_planNA D h2 49 a) := by
  refine m_plan H a _ (gPlan (D - 1) h2 a) rfl (fun b => ?_)
  have bc := isB_c b
  obtain ⟨h', q1, q2, q3, -⟩ := g_plan H.2.2.1.2.1 H.2.2.1.1 H.2.2.2.1 vc bc.1 (D := D - 1) (by omega)
  rw [← bc.2] at q1
  exact ⟨h', q1, q2, q3⟩
/-- mean -/
theorem m_meanG (H : HY T T2 h h2 N K C Z E n B R) {a : Int32} (b : isB N a) {m : Nat} (hm : m ≤ 8) : ∃ h', F_X4_meanOfGoes h 0 a (nI m) = (iZ (rvl N a.toNatClampNeg m 0 (stN N)), h') ∧ CX h' N K C Z E n B R ∧ fr49 h h' ∧ sO 25 4 h h' := by
  have wf := hw H
  have h3 : hr h 0 3 = 25 := H.2.1.1.2.2.2.1
  have bc := isB_c b
  obtain ⟨⟨A, M, k1, k2, k3⟩, x1, x2⟩ := h_fill H (b := a.toNatClampNeg) (dep := min m (inN N)) (pr := 0) bc.1 (by rw [e0]; omega) (Nat.min_le_right _ _)
  rw [← bc.2] at k1 x1 x2
  refine ⟨_, ?_, x1, x2, k1.2.1⟩
  have e := h_goes H a hm
  unfold F_X4_meanOfGoes
  simp only [letf]
  rw [h3, hc0 H, e, cx_c0 k1.2.1, h3, c_valueNow wf k1 k2]
  have v := val_mean H a.toNatClampNeg m hm
  have z : (0 : Int32).toInt = 0 := rfl
  rw [z, v]
theorem rvl_b {S : ST} (w : WF S) (b L m : Nat) (hL : L ≤ 61) : 0 ≤ rvl S b L 0 m ∧ rvl S b L 0 m ≤ 500000000 := by
  have pb := prL_b w L
  have := VV_b w b (pr := prL S L) pb.1 (L - 0) (S 0 4 + nI 0) (inN S - 0) m
  unfold rvl
  omega
theorem m_mean (H : HY T T2 h h2 N K C Z E n B R) (a m : Int32) (rr : Int32 × zH) (rest : Int64 × zH) (hr0 : rr = letf (F_X5_isBuyer h2 49 a) (fun y1 => (if y1 = (0 : Int32) then (letf (F_X5_refuse h2 49 (-2 : Int32)) (fun y2 => (y2.1, y2.2))) else (letf (F_X5_in (Int32.toInt64 m) (0 : Int64) (8 : Int64)) (fun y3 => (if y3 = (0 : Int32) then (letf (F_X5_refuse h2 49 (-2 : Int32)) (fun y4 => (y4.1, y4.2))) else (letf rest (fun y5 => ((Int64.toInt32 y5.1), y5.2))))))))) (hrest : isB N a → 0 ≤ m.toInt → m.toNatClampNeg ≤ 8 → ∃ h', rest = (lZ (rvl N a.toNatClampNeg m.toNatClampNeg 0 (stN N)), h') ∧ RX h' N K C Z E n B R ∧ fr0 h2 h') : PR h h2 (F_X4_mean h 0 a m) rr := by
  have wf := hw H
  rw [hr0]
  unfold F_X4_mean
  simp only [letf]
  rw [hc0 H, hcB H, hrB H, pair_in (a := m) (lo := 0) (hi := 8) (by decide) (by decide)]
  by_cases b : isB N a
  · rw [if_pos b, if_neg t10, if_neg t10]
    by_cases v : F_X4_isWithin m 0 8 = 0
    · rw [if_pos v, if_pos v]
      exact pr0 H
    · rw [if_neg v, if_neg v]
      have v' := win v
      have v' : 0 ≤ m.toInt ∧ m.toInt ≤ 8 := v'
      have cm := clamp_i (x := m) v'.1
      have m8 : m.toNatClampNeg ≤ 8 := by omega
      obtain ⟨h', r1, r2, r3⟩ := hrest b v'.1 m8
      obtain ⟨h'', q1, q2, q3, -⟩ := m_meanG H b m8
      rw [← nI_back (x := m) v'.1] at q1
      have rb := rvl_b wf a.toNatClampNeg m.toNatClampNeg (stN N) (by omega)
      rw [q1, r1, lZ_i32 (by omega) (by omega)]
      exact ⟨_, N, K, C, Z, E, n, B, R, ⟨rfl, q2, q3⟩, ⟨rfl, r2, r3⟩, H.2.2.2.2⟩
  · rw [if_neg b, if_pos rfl, if_pos rfl]
    exact pr0 H
theorem m_meanA (H : HY T T2 h h2 N K C Z E n B R) (vc : VC T2 h2 p) {D : Nat} (hD : 150 ≤ D) (a m : Int32) : PR h h2 (F_X4_mean h 0 a m) (F_X5_meanNA D h2 49 a m) := by
  refine m_mean H a m _ (gMean (D - 1) h2 a m) rfl (fun b m0 m8 => ?_)
  have bc := isB_c b
  obtain ⟨h', q1, q2, q3⟩ := g_mean H.2.2.1.2.1 H.2.2.1.1 H.2.2.2.1 vc bc.1 m8 (D := D - 1) (by omega)
  rw [← bc.2, ← nI_back (x := m) m0] at q1
  exact ⟨h', q1, q2, q3⟩
/-- at once -/
theorem m_once (H : HY T T2 h h2 N K C Z E n B R) (a : Int32) (rr : Int32 × zH) (rest : Int64 × zH) (hr0 : rr = letf (F_X5_isBuyer h2 49 a) (fun y1 => (if y1 = (0 : Int32) then (letf (F_X5_refuse h2 49 (-2 : Int32)) (fun y3 => (((-10000000 : Int32) + y3.1), y3.2))) else (letf rest (fun y2 => ((Int64.toInt32 (y2.1 - ((1000 : Int64) * (Int32.toInt64 (hv y2.2 49 12))))), y2.2)))))) (hrest : isB N a → ∃ h', rest = (lZ (rvl N a.toNatClampNeg 5 0 (stN N)), h') ∧ RX h' N K C Z E n B R ∧ fr0 h2 h') : PR h h2 (F_X4_atOnce h 0 a) rr := by
  have wf := hw H
  rw [hr0]
  unfold F_X4_atOnce
  simp only [letf]
  rw [hc0 H, hcB H, hrB H]
  by_cases b : isB N a
  · rw [if_pos b, if_neg t10, if_neg t10]
    obtain ⟨h', r1, r2, r3⟩ := hrest b
    obtain ⟨h'', q1, q2, q3, q4⟩ := m_meanG H b (m := 5) (by decide)
    have q1 : F_X4_meanOfGoes h 0 a (5 : Int32) = (iZ (rvl N a.toNatClampNeg 5 0 (stN N)), h'') := q1
    have rb := rvl_b wf a.toNatClampNeg 5 (stN N) (by decide)
    have fv := wf.1.2.2.2.1
    have n12 : hv h' 49 12 = N 0 3 := by
      rw [← r2.2.1.2.1]
      rfl
    have n3 : hv h'' 1 3 = N 0 3 := by
      rw [← q2.2.1.2.1]
      rfl
    have e1000 : (1000 : Int64) = lZ 1000 := rfl
    have i1000 : (1000 : Int32) = iZ 1000 := rfl
    rw [q1, r1]
    dsimp only
    rw [cx_c0 q4, hc0 H, n12, n3, e1000, lZ_i, ← lZ_mul, ← lZ_sub, lZ_i32 (by omega) (by omega), iZ_sub, iZ_mul, iZ_i, ← i1000]
    exact ⟨_, N, K, C, Z, E, n, B, R, ⟨rfl, q2, q3⟩, ⟨rfl, r2, r3⟩, H.2.2.2.2⟩
  · rw [if_neg b, if_pos rfl, if_pos rfl]
    exact pr_far H
theorem m_onceA (H : HY T T2 h h2 N K C Z E n B R) (vc : VC T2 h2 p) {D : Nat} (hD : 150 ≤ D) (a : Int32) : PR h h2 (F_X4_atOnce h 0 a) (F_X5_atOnceNA D h2 49 a) := by
  refine m_once H a _ (gMean (D - 1) h2 a (nI 5)) rfl (fun b => ?_)
  have bc := isB_c b
  obtain ⟨h', q1, q2, q3⟩ := g_mean H.2.2.1.2.1 H.2.2.1.1 H.2.2.2.1 vc bc.1 (m := 5) (by decide) (D := D - 1) (by omega)
  rw [← bc.2] at q1
  exact ⟨h', q1, q2, q3⟩
end
