section
variable {T T2 : List Nat} {h h' h'' k0 k' : zH} {B : Nat → Int32} {n e nt : Nat} {S S' : ST} {D : Nat → Int32}
/-- what both make of a statement -/
def SM (T T2 : List Nat) (h k0 : zH) (B : Nat → Int32) (n nt e : Nat) (r k : Int32 × zH) : Prop := (r.1 = 0 ∧ k.1 = 0 ∧ ∃ f, f ≤ n ∧ CQ T h B n r.2 ∧ hv r.2 29 3 = nI f ∧ RW T2 k0 B n f k.2) ∨ (r.1 = 1 ∧ k.1 = 1 ∧ ∃ S e' D, CP T h B n S e' r.2 ∧ RP T2 k0 B n S e' D k.2 ∧ e < e' ∧ ownS S ∧ nt ≤ nT S)
theorem sm_bad {e1 : Nat} (c : CP T h B n S e1 h') (w : RW T2 k0 B n (lxS B n e1) k') : SM T T2 h k0 B n nt e (0, h') (0, k') := Or.inl ⟨rfl, rfl, _, (lxS_p c.2.2.1).2.1, c.1, c.2.2.2.2.1, w⟩
theorem sm_ok {e1 : Nat} (c : CP T h B n S e1 h') (q : RP T2 k0 B n S e1 D k') (he : e < e1) (o : ownS S) (t : nt ≤ nT S) : SM T T2 h k0 B n nt e (1, h') (1, k') := Or.inr ⟨rfl, rfl, S, e1, D, c, q, he, o, t⟩
theorem rp_D (q : RP T2 k0 B n S e D k') : hv k' (hr k' 49 33) (0 : Int32).toNatClampNeg = D 0 ∧ hv k' (hr k' 49 33) (1 : Int32).toNatClampNeg = D 1 ∧ hv k' (hr k' 49 33) (2 : Int32).toNatClampNeg = D 2 := by
  rw [q.1.2.2.2.2.1]
  exact ⟨q.1.2.2.2.2.2.1 0 (by decide), q.1.2.2.2.2.2.1 1 (by decide), q.1.2.2.2.2.2.1 2 (by decide)⟩
theorem lx_go (he : e ≤ n) (hk : lxK B n e = 1) : e < lxE B n e := by
  have := lxE_gt he (by rw [hk]; decide)
  have := (lxS_p (B := B) he).1
  omega
theorem lx_go2 (he : e ≤ n) (hk : lxK B n e = 1) : e < lxE B n (lxE B n e) := by
  have := lx_go he hk
  have := lxE_le (B := B) (lxE_b (B := B) he).2
  omega
theorem upD_eq (D : Nat → Int32) (i : Nat) (x : Int32) : upD D i x i = x := if_pos rfl
theorem s_slips (c : CP T h B n S e h') (q : RP T2 k0 B n S e D k') (o : ownS S) (t : nt ≤ nT S) (hk : lxK B n e = 1) (h0 : nT S = 0) : SM T T2 h k0 B n nt e (F_X2_readSlips h' 29 17) (letf (F_X5_tells k' 49 (1 : Int32) (60 : Int32)) (fun y2 => (if y2.1 = (0 : Int32) then (J_X5_statement_j38 y2.2 49 y2.1) else (letf (F_X5_becomeSlips y2.2 49 (hv y2.2 (hr y2.2 49 33) (0 : Int32).toNatClampNeg)) (fun h4 => (J_X5_statement_j38 h4 49 y2.1)))))) := by
  have w := cp_w c
  have ni := nT_i w
  have n7 : ¬ (0 : Int32) < S 0 7 := fun y => by
    rw [i_lt, e0] at y
    omega
  have go := lx_go2 c.2.2.1 hk
  unfold F_X2_readSlips J_X5_statement_j38
  simp only [letf]
  rw [cm_n7 (cp_M c), if_neg n7]
  obtain ⟨c1, c2⟩ := c_readN c (lo := 1) (hi := 60) (by decide)
  rcases r_tell q (lo := 1) (hi := 60) (by decide) with ⟨r, a, b, d⟩ | ⟨r, a, b, d⟩
  · rcases c2 with ⟨c2, -, c3⟩ | ⟨-, c3⟩
    · have v : 1 ≤ (lxN B n (lxE B n e)).toInt ∧ (lxN B n (lxE B n e)).toInt ≤ 60 := b.2.2
      have w' := WF_slS w v (Or.inl h0)
      have m1 := cm_slips (cp_M c1) v
      have m2 := rm_slips (rq_m d.1) v
      rw [c2, if_neg t10, a, c3]
      dsimp only
      rw [if_neg t10, (rp_D d).1, upD_eq]
      exact sm_ok (cp_step (cp_cm c1 m1 w')) (rp_rm d m2 w') go (own_same o (fun _ => rfl) rfl rfl) t
    · exact absurd b c3
  · rcases c2 with ⟨-, c3, -⟩ | ⟨c2, -⟩
    · exact absurd c3 b
    · rw [c2, if_pos rfl, a]
      exact sm_bad c1 d
theorem rw_rm {f : Nat} (w : RW T2 k0 B n f k') (P : ∀ {S : ST}, RM T2 49 k' S k' → WF S → ∃ S', RM T2 49 k' S' h'' ∧ WF S') : RW T2 k0 B n f h'' := by
  obtain ⟨⟨S, D, c1, c2, c3, c4, c5, c6, c7⟩, w2⟩ := w
  obtain ⟨S', m, ws⟩ := P (rq_m (⟨c1, c2, c3, c4, c5, c6, c7⟩ : RQ T2 k0 B n S D k')) c2.2.2.1
  obtain ⟨k1, k2, k3⟩ := RM_RC m ws
  refine ⟨⟨S', D, k1.1, ⟨⟨fun o ho => (k1.2.1.2.1 o ho).1, fun b hb => (k1.2.1.2.2 b hb).1⟩, k2, ws, k1.2.2.2⟩, ⟨(hr_eq (sQ_at k3 (by omega) (by omega))).trans c3.1, (hv_eq (sQ_at k3 (by omega) (by omega))).trans c3.2.1, c3.2.2.1, fun j hj => (hv_eq (sQ_at k3 (by omega) (by omega))).trans (c3.2.2.2 j hj)⟩, fun m j a b d => (k3 m j a).trans (c4 m j a b d), (hr_eq (sQ_at k3 (by omega) (by omega))).trans c5, fun j hj => (hv_eq (sQ_at k3 (by omega) (by omega))).trans (c6 j hj), c7⟩, (hv_eq (sQ_at k3 (by omega) (by omega))).trans w2⟩
theorem s_rule (c : CP T h B n S e h') (q : RP T2 k0 B n S e D k') (o : ownS S) (t : nt ≤ nT S) (hk : lxK B n e = 1) (h0 : nT S = 0) : SM T T2 h k0 B n nt e (F_X2_readRule h' 29 17) (letf (F_X5_tells k' 49 (2 : Int32) (10 : Int32)) (fun y9002 => (if y9002.1 = (0 : Int32) then (J_X5_statement_j82 y9002.2 49 y9002.1 (hv y9002.2 49 10) 49) else (J_X5_statement_j82 y9002.2 49 y9002.1 (hv y9002.2 (hr y9002.2 49 33) (0 : Int32).toNatClampNeg) 49)))) := by
  have w := cp_w c
  have ni := nT_i w
  have n7 : ¬ (0 : Int32) < S 0 7 := fun y => by
    rw [i_lt, e0] at y
    omega
  have go := lx_go2 c.2.2.1 hk
  unfold F_X2_readRule J_X5_statement_j82
  simp only [letf]
  rw [cm_n7 (cp_M c), if_neg n7]
  obtain ⟨c1, c2⟩ := c_readN c (lo := 2) (hi := 10) (by decide)
  rcases r_tell q (lo := 2) (hi := 10) (by decide) with ⟨r, a, b, d⟩ | ⟨r, a, b, d⟩
  · rcases c2 with ⟨c2, -, c3⟩ | ⟨-, c3⟩
    · have v : 2 ≤ (lxN B n (lxE B n e)).toInt ∧ (lxN B n (lxE B n e)).toInt ≤ 10 := b.2.2
      have w' := WF_p1 w v
      have m1 := cm_p1 (cp_M c1) (lxN B n (lxE B n e))
      have m2 := rm_p1 (rq_m d.1) (lxN B n (lxE B n e))
      rw [c2, if_neg t10, a, c3]
      dsimp only
      rw [if_neg t10, (rp_D d).1, upD_eq]
      exact sm_ok (cp_step (cp_cm c1 m1 w')) (rp_rm d m2 w') go (own_same o (fun _ => rfl) rfl rfl) t
    · exact absurd b c3
  · rcases c2 with ⟨-, c3, -⟩ | ⟨c2, -⟩
    · exact absurd c3 b
    · rw [c2, if_pos rfl, a]
      dsimp only
      rw [if_pos rfl]
      refine sm_bad c1 (rw_rm d (fun {S} m ws => ⟨S, ?_, ws⟩))
      have m2 := rm_p1 m (S 0 1)
      rw [uS_self] at m2
      rw [rm_n1 m]
      exact m2
theorem s_buyer (c : CP T h B n S e h') (q : RP T2 k0 B n S e D k') (o : ownS S) (t : nt ≤ nT S) (hk : lxK B n e = 1) (h4 : nB S < 4) : SM T T2 h k0 B n nt e (F_X2_readBuyer h' 29 17) (letf (F_X5_tells k' 49 (0 : Int32) (9999 : Int32)) (fun y17402 => (if y17402.1 = (0 : Int32) then (J_X5_statement_j164 y17402.2 49 y17402.1) else (letf (F_X5_addBuyer y17402.2 49 (hv y17402.2 (hr y17402.2 49 33) (0 : Int32).toNatClampNeg)) (fun h17404 => (J_X5_statement_j164 h17404 49 y17402.1)))))) := by
  have w := cp_w c
  have nb := nB_i w
  have n8 : S 0 8 < (4 : Int32) := by
    rw [i_lt, show (4 : Int32).toInt = 4 from rfl]
    omega
  have go := lx_go2 c.2.2.1 hk
  unfold F_X2_readBuyer J_X5_statement_j164
  simp only [letf]
  rw [cm_n8 (cp_M c), if_pos n8]
  obtain ⟨c1, c2⟩ := c_readN c (lo := 0) (hi := 9999) (by decide)
  rcases r_tell q (lo := 0) (hi := 9999) (by decide) with ⟨r, a, b, d⟩ | ⟨r, a, b, d⟩
  · rcases c2 with ⟨c2, -, c3⟩ | ⟨-, c3⟩
    · have v : 0 ≤ (lxN B n (lxE B n e)).toInt ∧ (lxN B n (lxE B n e)).toInt ≤ 9999 := b.2.2
      have w' := WF_addB w h4 v
      obtain ⟨-, m1⟩ := cm_addB (cp_M c1) w h4 (lxN B n (lxE B n e))
      have m2 := rm_addB (rq_m d.1) w h4 (lxN B n (lxE B n e))
      rw [c2, if_neg t10, a, c3]
      dsimp only
      rw [if_neg t10, (rp_D d).1, upD_eq]
      exact sm_ok (cp_step (cp_cm c1 m1 w')) (rp_rm d m2 w') go (own_adB o w h4 _) t
    · exact absurd b c3
  · rcases c2 with ⟨-, c3, -⟩ | ⟨c2, -⟩
    · exact absurd c3 b
    · rw [c2, if_pos rfl, a]
      exact sm_bad c1 d
theorem isW_1 {w : Nat} (h : isW B n e w) : lxK B n e = 1 := h.1
theorem cp_wordW (c : CP T h B n S e h') {w k : Nat} (hw : w = 1000000 + k) (hk : k < 8) : (F_X2_isWord h' 29 w = 1 ∧ isW B n e w) ∨ (F_X2_isWord h' 29 w = 0 ∧ ¬ isW B n e w) := by
  subst hw
  exact cp_word c hk
theorem rp_wordW (c : RP T h B n S e D h') {w k : Nat} (hw : w = 1000000 + k) (hk : k < 8) : (F_X5_isWord h' 49 w = 1 ∧ isW B n e w) ∨ (F_X5_isWord h' 49 w = 0 ∧ ¬ isW B n e w) := by
  subst hw
  exact rp_word c hk
theorem s_five {e3 : Nat} (c : CP T h B n S e3 h') (q : RP T2 k0 B n S e3 D k') (o : ownS S) (t : nt ≤ nT S) (w : WF S) (hk : lxK B n e3 = 1) (go : e < e3) : SM T T2 h k0 B n nt e (if (F_X2_readNumber h' 29 (1 : Int32) (495 : Int32)).1 = (0 : Int32) then ((0 : Int32), (F_X2_readNumber h' 29 (1 : Int32) (495 : Int32)).2) else ((1 : Int32), F_X2_step (hput (F_X2_readNumber h' 29 (1 : Int32) (495 : Int32)).2 17 3 (.inl (.int (hv (F_X2_readNumber h' 29 (1 : Int32) (495 : Int32)).2 29 5)))) 29)) (if (F_X5_tells k' 49 (1 : Int32) (495 : Int32)).1 = (0 : Int32) then ((0 : Int32), (F_X5_tells k' 49 (1 : Int32) (495 : Int32)).2) else ((1 : Int32), hput (F_X5_tells k' 49 (1 : Int32) (495 : Int32)).2 49 12 (.inl (.int (hv (F_X5_tells k' 49 (1 : Int32) (495 : Int32)).2 (hr (F_X5_tells k' 49 (1 : Int32) (495 : Int32)).2 49 33) (0 : Int32).toNatClampNeg))))) := by
  have go3 := lx_go2 c.2.2.1 hk
  obtain ⟨c5, c6⟩ := c_readN c (lo := 1) (hi := 495) (by decide)
  rcases r_tell q (lo := 1) (hi := 495) (by decide) with ⟨r5, a5, b5, d5⟩ | ⟨r5, a5, b5, d5⟩
  · rcases c6 with ⟨c6, -, c7⟩ | ⟨-, c7⟩
    · have v5 : 1 ≤ (lxN B n (lxE B n e3)).toInt ∧ (lxN B n (lxE B n e3)).toInt ≤ 495 := b5.2.2
      have w5 := WF_p3 w v5
      have m5 := cm_p3 (cp_M c5) (lxN B n (lxE B n e3))
      have m6 := rm_p3 (rq_m d5.1) (lxN B n (lxE B n e3))
      rw [c6, if_neg t10, a5, c7]
      dsimp only
      rw [if_neg t10, (rp_D d5).1, upD_eq]
      exact sm_ok (cp_step (cp_cm c5 m5 w5)) (rp_rm d5 m6 w5) (Nat.lt_trans go go3) (own_same o (fun _ => rfl) rfl rfl) t
    · exact absurd b5 c7
  · rcases c6 with ⟨-, c7, -⟩ | ⟨c6, -⟩
    · exact absurd c7 b5
    · rw [c6, if_pos rfl, a5]
      exact sm_bad c5 d5
theorem s_price (c : CP T h B n S e h') (q : RP T2 k0 B n S e D k') (o : ownS S) (t : nt ≤ nT S) (hk : lxK B n e = 1) : SM T T2 h k0 B n nt e (F_X2_readPrices h' 29 17) (F_X5_priceTold k' 49) := by
  have w := cp_w c
  have go := lx_go2 c.2.2.1 hk
  unfold F_X2_readPrices F_X5_priceTold
  simp only [letf]
  obtain ⟨c1, c2⟩ := c_readN c (lo := 1) (hi := 99) (by decide)
  rcases r_tell q (lo := 1) (hi := 99) (by decide) with ⟨r, a, b, d⟩ | ⟨r, a, b, d⟩
  · rcases c2 with ⟨c2, -, c3⟩ | ⟨-, c3⟩
    · have v : 1 ≤ (lxN B n (lxE B n e)).toInt ∧ (lxN B n (lxE B n e)).toInt ≤ 99 := b.2.2
      have w' := WF_p2 w v
      have m1 := cm_p2 (cp_M c1) (lxN B n (lxE B n e))
      have m2 := rm_p2 (rq_m d.1) (lxN B n (lxE B n e))
      have c4 := cp_step (cp_cm c1 m1 w')
      have d4 := rp_rm d m2 w'
      have o' : ownS (uS S 0 2 (lxN B n (lxE B n e))) := own_same o (fun _ => rfl) rfl rfl
      have t' : nt ≤ nT (uS S 0 2 (lxN B n (lxE B n e))) := t
      rw [c2, if_neg t10, a, c3]
      dsimp only
      rw [if_neg t10, (rp_D d).1, upD_eq]
      generalize F_X2_step (hput (F_X2_readNumber h' 29 1 99).2 17 2 (.inl (.int (lxN B n (lxE B n e))))) 29 = h3 at c4 ⊢
      generalize hput r 49 11 (.inl (.int (lxN B n (lxE B n e)))) = k3 at d4 ⊢
      generalize uS S 0 2 (lxN B n (lxE B n e)) = S3 at c4 d4 w' o' t' ⊢
      generalize lxE B n (lxE B n e) = e3 at c4 d4 go
      rcases cp_wordW c4 (w := 1000007) (k := 7) (Nat.eq_of_beq_eq_true rfl) (by decide) with ⟨f1, f2⟩ | ⟨f1, f2⟩
      · rcases rp_wordW d4 (w := 1000007) (k := 7) (Nat.eq_of_beq_eq_true rfl) (by decide) with ⟨g1, g2⟩ | ⟨g1, g2⟩
        · rw [f1, g1, if_neg t10, if_neg t10]
          exact s_five c4 d4 o' t' w' (isW_1 f2) go
        · exact absurd f2 g2
      · rcases rp_wordW d4 (w := 1000007) (k := 7) (Nat.eq_of_beq_eq_true rfl) (by decide) with ⟨g1, g2⟩ | ⟨g1, g2⟩
        · exact absurd g2 f2
        · rw [f1, g1, if_pos rfl, if_pos rfl]
          exact sm_ok c4 d4 go o' t'
    · exact absurd b c3
  · rcases c2 with ⟨-, c3, -⟩ | ⟨c2, -⟩
    · exact absurd c3 b
    · rw [c2, if_pos rfl, a]
      exact sm_bad c1 d
end
