section
variable {T T2 Tv Tw : List Nat} {h h2 h' h2' hv0 h3 t0 t k0 : zH} {N N' S : ST} {K : Option ST} {C Z C' Z' : Nat → Int32} {E E' : Nat → Nat → Int64} {n : Nat} {B R : Nat → Int32} {p : Nat}
theorem bk_c (N : ST) (b : Int32) (sl : Nat → Int32) {c : Nat} (h0 : c ≠ 0) (h1 : c ≠ 1) (h5 : c ≠ 5) (h6 : c ≠ 6) : ∀ j, bokS N b sl j c = N c
  | 0 => rfl
  | j + 1 => (drawS_c h0 h1 h5 h6).trans (bk_c N b sl h0 h1 h5 h6 j)
theorem bk_0 (N : ST) (b : Int32) (sl : Nat → Int32) {i : Nat} (hi : i ≠ 4) : ∀ j, bokS N b sl j 0 i = N 0 i
  | 0 => rfl
  | j + 1 => (drawS_0 hi).trans (bk_0 N b sl hi j)
theorem bk_nT (N : ST) (b : Int32) (sl : Nat → Int32) (j : Nat) : nT (bokS N b sl j) = nT N := nT_congr (bk_0 N b sl (by decide) j)
theorem own_draw (w : ownS S) {x b : Int32} (hb : isB S b) : ownS (drawS S x b) := fun t ht hn => by
  rw [drawS_nT] at ht
  rw [drawS_6] at hn ⊢
  unfold isB
  rw [drawS_0 (show 8 ≠ 4 by decide)]
  by_cases y : t < nT S ∧ nb (winsN S x) t ≠ 0
  · rw [if_pos y]
    exact hb
  · rw [if_neg y] at hn ⊢
    exact w t ht hn
theorem bk_isB {b : Int32} (hb : isB N b) (sl : Nat → Int32) (j : Nat) : isB (bokS N b sl j) b := by
  unfold isB
  rw [bk_0 N b sl (by decide) j]
  exact hb
theorem bk_own (w : ownS N) {b : Int32} (hb : isB N b) (sl : Nat → Int32) : ∀ j, ownS (bokS N b sl j)
  | 0 => w
  | j + 1 => own_draw (bk_own w hb sl j) (bk_isB hb sl j)
/-- refused for the shelf's number, for the book's length -/
theorem bk_far {h : zH} (a m : Int32) (w : F_X4_isWithin a 0 7 = 0) : F_X4_lackOfBook h 0 a m = -2 := by
  unfold F_X4_lackOfBook
  simp only [letf]
  rw [shelf_eq, if_pos w]
theorem bk_big {h : zH} (a m : Int32) (w : ¬ F_X4_isWithin a 0 7 = 0) (w2 : F_X4_isWithin m 0 40 = 0) : F_X4_lackOfBook h 0 a m = -2 := by
  unfold F_X4_lackOfBook
  simp only [letf]
  rw [shelf_eq, if_neg w, if_pos w2]
/-- what both sides' trials of a book leave -/
def BKR (T : List Nat) (h h2 : zH) (N : ST) (K : Option ST) (C Z : Nat → Int32) (E : Nat → Nat → Int64) (n : Nat) (B R : Nat → Int32) (s : Nat) (m b : Int32) (r k : Int32 × zH) : Prop := r.1 = k.1 ∧ (CX r.2 N K C Z E n B R ∧ fr49 h r.2) ∧ (RX k.2 N K C Z E n B R ∧ fr0 h2 k.2) ∧ (∃ S, CM T 17 h S r.2 ∧ WF S ∧ hv k.2 49 40 = nI (sDiff (stN N) (stN S)) ∧ (r.1 = -1 → S = bokS N b (fun i => Int64.toInt32 (E s i)) m.toNatClampNeg ∧ ∀ i, i < m.toNatClampNeg → isS (bokS N b (fun i => Int64.toInt32 (E s i)) i) (Int64.toInt32 (E s i)))) ∧ hv k.2 50 s = 1 ∧ ∃ Tw, hOK kty Tw k.2 ∧ tExt zT0 Tw
theorem book_run (H : HY T T2 h h2 N K C Z E n B R) (ce : tExt zT0 Tv) (Kv : hOK kty Tv hv0) (x : RX hv0 N K C Z E n B R) (e27 : hget hv0 49 27 = some (.inl (.ref p))) (hp : 79 ≤ p) (tp : Tv[p]? = some 6) (s26 : ∀ q : Nat, hget hv0 49 26 = some (.inl (.ref q)) → ∀ d d', d < 29 → d' < 29 → q + d ≠ p + d') (s35 : ∀ q : Nat, hget hv0 49 35 = some (.inl (.ref q)) → ∀ d, d < 29 → q ≠ p + d) {a m b : Int32} (hb : 0 ≤ b.toInt ∧ b.toInt < 4) (wa : ¬ F_X4_isWithin a 0 7 = 0) (l1 : hv hv0 50 a.toNatClampNeg = 1) (wm : ¬ F_X4_isWithin m 0 40 = 0) (hz : m.toInt ≤ (Z a.toNatClampNeg).toInt) : BKR T h hv0 N K C Z E n B R a.toNatClampNeg m b (F_X4_firstWrong h 0 a m b) (letf (J_X5_freshA_j18 hv0 49) (fun y1 => (letf (hput y1.2 49 40 (.inl (.int (0 : Int32)))) (fun h2 => (fx (B_X5_wrongInA_13 49 (54 + a.toNatClampNeg) m y1.1) (0, []) ((0 : Int32), h2)))))) := by
  have hs := shelf_lt wa
  have v := win wm
  have v : 0 ≤ m.toInt ∧ m.toInt ≤ 40 := v
  have l : rLy hv0 p := by
    rcases x.2.2.2.1.1 with y | ⟨q, y1, y2, y3, y4⟩
    · rw [y] at e27
      cases e27
    · rw [y1] at e27
      cases e27
      exact y3
  have rc : RC Tv hv0 49 := ⟨Kv, rlay_49 ce x.2.1.1, by rw [x.2.1.2.1]; exact x.2.1.2.2.1, x.2.1.2.2.2⟩
  have rm := rm_take ⟨Kv, rlay_6 Kv tp l, rfl⟩ (sQ_r p hv0) rc (Or.inl (by omega))
  rw [x.2.1.2.1] at rm
  obtain ⟨k1, k2, k3⟩ := RM_RC rm x.2.1.2.2.1
  have t49 : Tv[49]? = some 5 := ce _ _ rfl
  have g40 := k_int k1.1 t49 (i := 40) (by decide) rfl
  obtain ⟨k4, k5⟩ := RC_same k1 (k_put k1.1 t49 (i := 40) rfl 0) (tExt_rf Tv) (fun d i hd => hget_put_ne (Or.inl (by omega)))
  have cr17 : CR T h 17 (fun d i => hv h (17 + d) i) (hJ h 17 7) := ⟨H.1.1, clay_of H.1.2 (Or.inr (Or.inr rfl)) H.2.1.2.2.2.1, rfl, rfl⟩
  have m1 := cm_become cr17 (sO_r 17 8 h) (hcc H) (Or.inl (by decide))
  rw [hca H] at m1
  have key := book_sim H ce x hp hs l1 hb v hz rfl wa m1 k4 (k5.trans k2) (fun q i y1 y2 => by rw [hget_put_ne (by omega), sQ_out k3 y2]) (hv_put g40)
  have ec : F_X4_firstWrong h 0 a m b = fx (B_X4_firstWrong_14 0 a m b) (0, []) ((0 : Int32), F_X1_become h 17 1) := by
    unfold F_X4_firstWrong
    simp only [letf]
    rw [hc0 H, H.2.1.1.2.2.1]
  have er : letf (J_X5_freshA_j18 hv0 49) (fun y1 => (letf (hput y1.2 49 40 (.inl (.int (0 : Int32)))) (fun h2 => (fx (B_X5_wrongInA_13 49 (54 + a.toNatClampNeg) m y1.1) (0, []) ((0 : Int32), h2))))) = fx (B_X5_wrongInA_13 49 (54 + a.toNatClampNeg) m p) (0, []) ((0 : Int32), hput (F_X5_takeFrom_56 hv0 p 49) 49 40 (.inl (.int (0 : Int32)))) := by
    unfold J_X5_freshA_j18
    simp only [letf]
    have e : hr (F_X5_takeFrom_56 hv0 p 49) 49 27 = p := (hr_eq (sQ_out k3 (fun d hd => by omega))).trans (hr_of e27)
    rw [hr_of e27, take_65, e]
  rw [ec, er]
  obtain ⟨q1, S, q2, q3, q4, q5, q6, q7⟩ := key
  obtain ⟨c1, c2, c3⟩ := CM_CC q2 q3
  obtain ⟨d1, d2⟩ := cx_tr H.2.1 c3 c1.2.1
  obtain ⟨d3, d4⟩ := fr_rx x e27 hp q4 q5 s26 s35
  refine ⟨q1, ⟨d1, d2⟩, ⟨d3, d4⟩, ⟨S, q2, q3, q6, q7⟩, ?_, Tv, q4.1, ce⟩
  rw [← l1]
  exact hv_eq (q5 50 _ (by omega) (fun d hd => by omega))
/-- the reference's book, in place -/
theorem rm_book (x : RX k0 N K C Z E n B R) (Kw : hOK kty Tw k0) (ce : tExt zT0 Tw) {a m b : Int32} (hs : a.toNatClampNeg < 8) (l1 : hv k0 50 a.toNatClampNeg = 1) (hm : 0 ≤ m.toInt ∧ m.toInt ≤ 40) (hb : isB N b) (h4 : 0 ≤ b.toInt ∧ b.toInt < 4) (hS : ∀ i, i < m.toNatClampNeg → isS (bokS N b (fun i => Int64.toInt32 (E a.toNatClampNeg i)) i) (Int64.toInt32 (E a.toNatClampNeg i))) (c4 : Int32) : (fx (B_X5_bookedA_95 49 a m b c4) (0, []) ((0 : Int32), k0)).1 = hv k0 49 40 ∧ RM Tw 49 k0 (payS (bokS N b (fun i => Int64.toInt32 (E a.toNatClampNeg i)) m.toNatClampNeg) b (m * N 0 2)) (fx (B_X5_bookedA_95 49 a m b c4) (0, []) ((0 : Int32), k0)).2 := by
  have wN := x.2.1.2.2.1
  have rc : RC Tw k0 49 := ⟨Kw, rlay_49 ce x.2.1.1, by rw [x.2.1.2.1]; exact wN, x.2.1.2.2.2⟩
  have rm := RM_of rc
  rw [x.2.1.2.1] at rm
  have cm := clamp_i hm.1
  have b6 : ∀ i, i < 40 → hJ k0 (54 + a.toNatClampNeg) i = E a.toNatClampNeg i := by
    rcases x.2.2.2.2.2.2 _ hs with y | y | y
    · rw [y.1] at l1
      exact absurd l1 (by decide)
    · exact y.2.2.2.2.2
    · rw [y.1] at l1
      exact absurd l1 (by decide)
  have mlt : ∀ j : Nat, j < 1000 → (nI j < m ↔ j < m.toNatClampNeg) := fun j hj => by
    rw [i_lt, nI_t (by omega)]
    omega
  have wj : ∀ j, j ≤ m.toNatClampNeg → WF (bokS N b (fun i => Int64.toInt32 (E a.toNatClampNeg i)) j) := bk_WF wN h4 hS
  have bc := (isB_c hb).1
  refine fx_forI (F := B_X5_bookedA_95 49 a m b c4) (d := (0, [])) (fun j (s : Int32 × zH) => s.1 = nI j ∧ RM Tw 49 k0 (bokS N b (fun i => Int64.toInt32 (E a.toNatClampNeg i)) j) s.2) (fun (r : Int32 × zH) => r.1 = hv k0 49 40 ∧ RM Tw 49 k0 (payS (bokS N b (fun i => Int64.toInt32 (E a.toNatClampNeg i)) m.toNatClampNeg) b (m * N 0 2)) r.2) m.toNatClampNeg (fun s hs2 => ?_) (fun j s hj hs2 => ?_) ⟨rfl, rm⟩
  · obtain ⟨s1, s2⟩ := s
    obtain ⟨e, hs2⟩ := hs2
    have e : s1 = nI m.toNatClampNeg := e
    have hs2 : RM Tw 49 k0 (bokS N b (fun i => Int64.toInt32 (E a.toNatClampNeg i)) m.toNatClampNeg) s2 := hs2
    subst e
    have z : ¬ nI m.toNatClampNeg < m := fun y => absurd ((mlt _ (by omega)).mp y) (Nat.lt_irrefl _)
    have wM := wj _ (Nat.le_refl _)
    have bM := bk_isB hb (fun i => Int64.toInt32 (E a.toNatClampNeg i)) m.toNatClampNeg
    have b4 := nB_4 wM
    have bM1 := (isB_c bM).1
    have m1 := rm_w7 hs2 (bokS N b (fun i => Int64.toInt32 (E a.toNatClampNeg i)) m.toNatClampNeg 7 b.toNatClampNeg - m * N 0 2) (t := b.toNatClampNeg) (by omega) bM1
    have m2 := rm_p5 m1 (uS (bokS N b (fun i => Int64.toInt32 (E a.toNatClampNeg i)) m.toNatClampNeg) 7 b.toNatClampNeg (bokS N b (fun i => Int64.toInt32 (E a.toNatClampNeg i)) m.toNatClampNeg 7 b.toNatClampNeg - m * N 0 2) 0 5 + m * N 0 2)
    have n2 : hv s2 49 11 = N 0 2 := (rm_n2 hs2).trans (bk_0 _ _ _ (by decide) _)
    have n2' := rm_n2 m1
    have n5' := rm_n5 m1
    have n2' : hv (hput s2 (hr s2 49 24) b.toNatClampNeg (.inl (.int (bokS N b (fun i => Int64.toInt32 (E a.toNatClampNeg i)) m.toNatClampNeg 7 b.toNatClampNeg - m * N 0 2)))) 49 11 = N 0 2 := n2'.trans (bk_0 _ _ _ (by decide) _)
    obtain ⟨rd2, -, -, -, sq⟩ := m2
    unfold B_X5_bookedA_95
    simp only [letf]
    rw [if_neg z, rm_a7 hs2 bM1, n2, n5', n2']
    refine ⟨_, rfl, ?_, rm_p5 m1 _⟩
    exact hv_eq (sQ_at sq (by omega) (by omega))
  · obtain ⟨s1, s2⟩ := s
    obtain ⟨e, hs2⟩ := hs2
    have e : s1 = nI j := e
    have hs2 : RM Tw 49 k0 (bokS N b (fun i => Int64.toInt32 (E a.toNatClampNeg i)) j) s2 := hs2
    subst e
    have zj : nI j < m := (mlt j (by omega)).mpr hj
    obtain ⟨rd2, -, -, -, sq⟩ := id hs2
    have r3 : hr s2 49 3 = 53 := (hr_eq (sQ_at sq (by omega) (by omega))).trans x.1.1.2.2.2.1
    have r53 : hr s2 53 a.toNatClampNeg = 54 + a.toNatClampNeg := (hr_eq (sQ_at sq (by omega) (by omega))).trans (x.1.2 _ hs)
    have eJ : hJ s2 (54 + a.toNatClampNeg) j = E a.toNatClampNeg j := (hJ_eq (sQ_at sq (by omega) (by omega))).trans (b6 j (by omega))
    unfold B_X5_bookedA_95
    simp only [letf]
    rw [if_pos zj, r3, r53, nI_c (by omega), eJ, nI_s]
    exact Or.inr ⟨_, rfl, rfl, (rm_draw hs2 (wj j (by omega)) (hS j hj)).2⟩
end
