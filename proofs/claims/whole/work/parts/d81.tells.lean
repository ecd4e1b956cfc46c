section
variable {T T2 : List Nat} {h h' h'' k0 k' : zH} {B : Nat → Int32} {n e nt : Nat} {S S' : ST} {D : Nat → Int32}
/-- a slip out of which nothing stands -/
theorem WF_out {S : ST} (w : WF S) {x : Int32} (hx : isS S x) (hn : ∀ t, t < nT S → S 6 t = -1 → S 3 t ≠ x) : WF (uS S 1 x.toNatClampNeg 0) := by
  have h1 : ∀ i, uS S 1 x.toNatClampNeg 0 1 i = if i = x.toNatClampNeg then 0 else S 1 i := fun i => by
    by_cases e : i = x.toNatClampNeg
    · rw [if_pos e, e, uS_eq]
    · rw [if_neg e, uS_ne (Or.inr e)]
  refine ⟨w.1, fun i => ?_, fun t ht => ?_, w.2.2.2.1, w.2.2.2.2⟩
  · rw [h1]
    by_cases e : i = x.toNatClampNeg
    · rw [if_pos e]
      exact Or.inl rfl
    · rw [if_neg e]
      exact w.2.1 i
  · have ht : t < nT S := ht
    obtain ⟨o1, o2, o3, o4, o5, o6⟩ := w.2.2.1 t ht
    refine ⟨o1, o2, o3, o4, fun y => ?_, o6⟩
    have y : S 6 t = -1 := y
    show uS S 1 x.toNatClampNeg 0 1 (S 3 t).toNatClampNeg = 1
    rw [h1, if_neg (fun z => ?_)]
    · exact o5 y
    · have a := sl_b w ht
      have b := isS_c hx
      have : S 3 t = x := by
        rw [a.2.2, nI_back (x := x) (by omega)]
        exact congrArg nI z
      exact hn t ht y this
theorem cq_thOn (c : CP T h B n S e h') (x : Int32) : F_X1_thingOn h' 17 x = thOn S x := by
  have := c_thOn c.1.1 x
  rw [c.2.1] at this
  exact this
theorem rq_thOn (q : RP T2 k0 B n S e D k') (x : Int32) : F_X5_thingOn k' 49 x = thOn S x := by
  have := r_thOn (rq_rc q.1) x
  rw [q.1.2.1.2.1] at this
  exact this
theorem cq_in (c : CP T h B n S e h') {x : Int32} (hx : isS S x) : F_X1_isIn h' 17 x = S 1 x.toNatClampNeg := by
  have := c_isIn c.1.1 (x := x) (by rw [c.2.1]; exact hx)
  rw [c.2.1] at this
  exact this
theorem rq_out (q : RP T2 k0 B n S e D k') {x : Int32} (hx : isS S x) : hv k' (hr k' 49 16) x.toNatClampNeg = 0 ↔ S 1 x.toNatClampNeg = 1 := by
  have rc := rq_rc q.1
  have ra := q.1.2.1.2.1
  have ic := isS_c hx
  have n60 := nS_60 q.1.2.1.2.2.1
  have l2 := r_in1 rc (i := x.toNatClampNeg) (by rw [ra]; exact ⟨ic.1, ic.2.1⟩)
  rw [ra] at l2
  have bt := rc.2.2.2 x.toNatClampNeg (by omega)
  rw [rl16 rc.2.1]
  rcases bt with y | y
  · rw [y] at l2
    rw [y, l2]
    exact ⟨fun _ => by decide, fun _ => rfl⟩
  · rw [y] at l2
    rw [y, l2]
    exact ⟨fun z => absurd z (by decide), fun z => absurd z (by decide)⟩
theorem okV_isS {x : Nat} (h : okV B n x 1 (S 0 0)) : isS S (lxN B n x) := h.2.2
/-- a slip that is told: in range or not -/
theorem lxG_in (q : RP T2 k0 B n S e D k') (w : WF S) (hk : lxK B n e = 2) : (okV B n e 1 (S 0 0) ∧ lxG B n e = lxN B n e) ∨ (¬ okV B n e 1 (S 0 0) ∧ ¬ isS S (lxG B n e)) := by
  have sl := WF_sl w
  by_cases z : lxL B n e ≤ 4
  · have eG : lxG B n e = lxN B n e := (if_pos hk).trans (if_pos z)
    by_cases y : isS S (lxN B n e)
    · exact Or.inl ⟨⟨hk, z, y⟩, eG⟩
    · exact Or.inr ⟨fun v => y v.2.2, by rw [eG]; exact y⟩
  · have eG : lxG B n e = 100000 := (if_pos hk).trans (if_neg z)
    refine Or.inr ⟨fun v => z v.2.1, fun y => ?_⟩
    rw [eG] at y
    have y2 := y.2
    rw [show (100000 : Int32).toInt = 100000 from rfl] at y2
    omega
theorem rq_inS (q : RP T2 k0 B n S e D k') (x : Int32) : F_X5_in (Int32.toInt64 x) (1 : Int64) (Int32.toInt64 (hv k' 49 9)) = if isS S x then 1 else 0 := by
  have := r_inS (h := k') (q := 49) x
  rw [q.1.2.1.2.1] at this
  exact this
theorem s_likes (c : CP T h B n S e h') (q : RP T2 k0 B n S e D k') (o : ownS S) (t : nt ≤ nT S) (hk : lxK B n e = 1) : SM T T2 h k0 B n nt e (F_X2_readLiking h' 29 17) (letf (F_X5_tells k' 49 (0 : Int32) ((hv k' 49 23) - (1 : Int32))) (fun y21605 => (if y21605.1 = (0 : Int32) then (J_X5_statement_j216 y21605.2 49) else (letf (F_X5_number y21605.2 49 (1 : Int32) (0 : Int32) ((hv y21605.2 49 17) - (1 : Int32))) (fun y21606 => (if y21606.1 = (0 : Int32) then (J_X5_statement_j216 y21606.2 49) else (letf (F_X5_number y21606.2 49 (2 : Int32) (0 : Int32) (999 : Int32)) (fun y21607 => (if y21607.1 = (0 : Int32) then (J_X5_statement_j216 y21607.2 49) else (letf (hput y21607.2 (hr y21607.2 (hr y21607.2 49 25) (hv y21607.2 (hr y21607.2 49 33) (0 : Int32).toNatClampNeg).toNatClampNeg) (hv y21607.2 (hr y21607.2 49 33) (1 : Int32).toNatClampNeg).toNatClampNeg (.inl (.int (hv y21607.2 (hr y21607.2 49 33) (2 : Int32).toNatClampNeg)))) (fun h21613 => ((1 : Int32), h21613)))))))))))) := by
  have w := cp_w c
  have bu := WF_bu w
  have th := WF_th w
  have one : (1 : Int32).toInt = 1 := rfl
  have sb : (S 0 8 - 1).toInt = (S 0 8).toInt - 1 := i_isub (by rw [one]; omega) (by rw [one]; omega)
  have st : (S 0 7 - 1).toInt = (S 0 7).toInt - 1 := i_isub (by rw [one]; omega) (by rw [one]; omega)
  have go := lx_go2 c.2.2.1 hk
  unfold F_X2_readLiking J_X5_statement_j216
  simp only [letf]
  rw [cm_n8 (cp_M c), rm_n8 (rq_m q.1)]
  obtain ⟨c1, c2⟩ := c_readN c (lo := 0) (hi := S 0 8 - 1) (by decide)
  rcases r_tell q (lo := 0) (hi := S 0 8 - 1) (by omega) with ⟨r, a, b, d⟩ | ⟨r, a, b, d⟩
  · rcases c2 with ⟨c2, -, c3⟩ | ⟨-, c3⟩
    · rw [c2, if_neg t10, a, c3]
      dsimp only
      rw [if_neg t10]
      have hb : isB S (lxN B n (lxE B n e)) := ⟨b.2.2.1, by have := b.2.2.2; omega⟩
      generalize lxN B n (lxE B n e) = v1 at hb d
      generalize lxE B n e = e1 at c1 d go
      generalize (F_X2_readNumber h' 29 0 (S 0 8 - 1)).2 = g1 at c1
      rw [cm_n7 (cp_M c1), rm_n7 (rq_m d.1)]
      obtain ⟨c4, c5⟩ := c_readN c1 (lo := 0) (hi := S 0 7 - 1) (by decide)
      have go4 := lxE_le (B := B) (lxE_b (B := B) c1.2.2.1).2
      rcases r_num d (i := 1) (by decide) (lo := 0) (hi := S 0 7 - 1) (by omega) with ⟨r2, a2, b2, d2⟩ | ⟨r2, a2, b2, d2⟩
      · rcases c5 with ⟨c5, -, c6⟩ | ⟨-, c6⟩
        · have a2 : F_X5_number r 49 (1 : Int32) (0 : Int32) (S 0 7 - 1) = (1, r2) := a2
          rw [c5, if_neg t10, a2, c6]
          dsimp only
          rw [if_neg t10]
          have hT : isT S (lxN B n (lxE B n e1)) := ⟨b2.2.2.1, by have := b2.2.2.2; omega⟩
          generalize lxN B n (lxE B n e1) = v2 at hT d2
          generalize lxE B n e1 = e2 at c4 d2 go go4
          generalize (F_X2_readNumber g1 29 0 (S 0 7 - 1)).2 = g2 at c4
          obtain ⟨c7, c8⟩ := c_readN c4 (lo := 0) (hi := 999) (by decide)
          have go5 := lxE_le (B := B) (lxE_b (B := B) c4.2.2.1).2
          rcases r_num d2 (i := 2) (by decide) (lo := 0) (hi := 999) (by decide) with ⟨r3, a3, b3, d3⟩ | ⟨r3, a3, b3, d3⟩
          · rcases c8 with ⟨c8, -, c9⟩ | ⟨-, c9⟩
            · have a3 : F_X5_number r2 49 (2 : Int32) (0 : Int32) (999 : Int32) = (1, r3) := a3
              rw [c8, if_neg t10, a3, c9]
              dsimp only
              rw [if_neg t10, (rp_D d3).1, (rp_D d3).2.1, (rp_D d3).2.2]
              have u0 : upD (upD (upD D 0 v1) 1 v2) 2 (lxN B n (lxE B n e2)) 0 = v1 := rfl
              have u1 : upD (upD (upD D 0 v1) 1 v2) 2 (lxN B n (lxE B n e2)) 1 = v2 := rfl
              have vb : 0 ≤ (lxN B n (lxE B n e2)).toInt ∧ (lxN B n (lxE B n e2)).toInt ≤ 999 := b3.2.2
              rw [u0, u1, upD_eq]
              generalize lxN B n (lxE B n e2) = v3 at vb d3
              have w' := WF_w8 w (8 * v1.toNatClampNeg + v2.toNatClampNeg) vb
              have m1 := cm_lk (cp_M c7) w hb hT v3
              have m2 := rm_lk (rq_m d3.1) w hb hT v3
              have go6 := lxE_le (B := B) (lxE_b (B := B) c7.2.2.1).2
              exact sm_ok (cp_step (cp_cm c7 m1 w')) (rp_rm d3 m2 w') (by omega) (own_same o (fun _ => rfl) rfl rfl) t
            · exact absurd b3 c9
          · rcases c8 with ⟨-, c9, -⟩ | ⟨c8, -⟩
            · exact absurd c9 b3
            · have a3 : F_X5_number r2 49 (2 : Int32) (0 : Int32) (999 : Int32) = (0, r3) := a3
              rw [c8, if_pos rfl, a3]
              exact sm_bad c7 d3
        · exact absurd b2 c6
      · rcases c5 with ⟨-, c6, -⟩ | ⟨c5, -⟩
        · exact absurd c6 b2
        · have a2 : F_X5_number r 49 (1 : Int32) (0 : Int32) (S 0 7 - 1) = (0, r2) := a2
          rw [c5, if_pos rfl, a2]
          exact sm_bad c4 d2
    · exact absurd b c3
  · rcases c2 with ⟨-, c3, -⟩ | ⟨c2, -⟩
    · exact absurd c3 b
    · rw [c2, if_pos rfl, a]
      exact sm_bad c1 d
theorem s_out (c : CP T h B n S e h') (q : RP T2 k0 B n S e D k') (o : ownS S) (t : nt ≤ nT S) (hk : lxK B n e = 1) : SM T T2 h k0 B n nt e (F_X2_readOut h' 29 17) (F_X5_outTold k' 49) := by
  have w := cp_w c
  have n8 := nT_8 w
  have sl := WF_sl w
  have go := lx_go2 c.2.2.1 hk
  have d := rp_look q
  unfold F_X2_readOut F_X5_outTold
  simp only [letf]
  rw [cm_n0 (cp_M c)]
  obtain ⟨c1, c2⟩ := c_readN c (lo := 1) (hi := S 0 0) (by decide)
  generalize (F_X2_readNumber h' 29 1 (S 0 0)).2 = g1 at c1 c2 ⊢
  generalize (F_X2_readNumber h' 29 1 (S 0 0)).1 = y1 at c2 ⊢
  generalize F_X5_look k' 49 = k1 at d ⊢
  generalize lxE B n e = e1 at c1 c2 d go
  obtain ⟨r, rw1, rw2⟩ := r_wr d
  rw [d.2.2.2.1, d.2.2.2.2.2, rw1]
  have bad : SM T T2 h k0 B n nt e (0, g1) (0, r) := sm_bad c1 rw2
  by_cases k2 : lxK B n e1 = 2
  · rw [if_pos (lxR_i.1.mpr k2), rq_inS d]
    rcases lxG_in d w k2 with ⟨v, eG⟩ | ⟨v, nG⟩
    · rcases c2 with ⟨c2, -, c3⟩ | ⟨-, c3⟩
      · have hx := okV_isS v
        rw [eG, if_pos hx, if_neg t10, c2, if_neg t10, c3]
        generalize lxN B n e1 = x at hx ⊢
        rw [cq_in c1 hx, cq_thOn c1, rq_thOn d]
        have io := rq_out d hx
        rcases w.2.1 x.toNatClampNeg with z | z
        · rw [z, if_pos rfl, if_neg (fun y => by
            rw [io.mp y] at z
            exact absurd z (by decide))]
          exact bad
        · rw [z, if_neg t10, if_pos (io.mpr z)]
          have es := c_stands c1.1.1 (thOn S x)
          rw [c1.2.1] at es
          have fin : (∀ u, u < nT S → S 6 u = -1 → S 3 u ≠ x) → SM T T2 h k0 B n nt e (1, F_X2_step (F_X1_takeOut g1 17 x) 29) (1, F_X5_look (hput k1 (hr k1 49 16) x.toNatClampNeg (.inl (.int 1))) 49) := fun hn => by
            have w' := WF_out w hx hn
            have n60 := nS_60 w
            have m1 := cm_out (cp_M c1) n60.1 hx
            have m2 := rm_out (rq_m d.1) n60.1 hx
            exact sm_ok (cp_step (cp_cm c1 m1 w')) (rp_look (rp_rm d m2 w')) go (own_same o (fun _ => rfl) rfl rfl) t
          rcases thOn_cases S x with ⟨y1, y2⟩ | ⟨u, u1, u2, u3, u4⟩
          · rw [y1] at es
            rw [if_neg (fun y => notT_m1 S y.1)] at es
            rw [y1, es, if_pos rfl, if_pos rfl]
            exact fin (fun v hv _ => y2 v hv)
          · have uc : (nI u).toNatClampNeg = u := nI_c (by omega)
            rw [u2, if_neg (nm1 u (by omega)), uc, rm_a6 (rq_m d.1) u1]
            rw [u2, uc] at es
            by_cases y : S 6 u = -1
            · rw [if_pos ⟨isT_n w u1, y⟩] at es
              rw [es, if_neg t10, if_pos y]
              exact bad
            · rw [if_neg (fun z => y z.2)] at es
              rw [es, if_pos rfl, if_neg y]
              refine fin (fun v hv hs e3 => ?_)
              have : v = u := by
                rcases Nat.lt_trichotomy v u with z | z | z
                · exact absurd e3 (u4 v z)
                · exact z
                · exact absurd (u3.trans e3.symm) ((w.2.2.1 v hv).2.2.2.2.2 u z)
              rw [this] at hs
              exact y hs
      · exact absurd v c3
    · rcases c2 with ⟨-, c3, -⟩ | ⟨c2, -⟩
      · exact absurd c3 v
      · rw [if_neg nG, if_pos rfl, c2, if_pos rfl]
        exact bad
  · rw [if_neg (fun y => k2 (lxR_i.1.mp y))]
    rcases c2 with ⟨-, c3, -⟩ | ⟨c2, -⟩
    · exact absurd c3.1 k2
    · rw [c2, if_pos rfl]
      exact bad
theorem s_thing (c : CP T h B n S e h') (q : RP T2 k0 B n S e D k') (o : ownS S) (t : nt ≤ nT S) (hk : lxK B n e = 1) (h8 : nT S < 8) : SM T T2 h k0 B n nt e (F_X2_readThing h' 29 17) (F_X5_thingTold k' 49) := by
  have w := cp_w c
  have ni := nT_i w
  have sl := WF_sl w
  have ru := w.1.2.1
  have n7 : S 0 7 < (8 : Int32) := by
    rw [i_lt, show (8 : Int32).toInt = 8 from rfl]
    omega
  have go := lx_go2 c.2.2.1 hk
  unfold F_X2_readThing F_X5_thingTold
  simp only [letf]
  rw [cm_n7 (cp_M c), if_pos n7]
  obtain ⟨c1, c2⟩ := c_readN c (lo := 0) (hi := 5) (by decide)
  rcases r_tell q (lo := 0) (hi := 5) (by decide) with ⟨r, a, b, d⟩ | ⟨r, a, b, d⟩
  · rcases c2 with ⟨c2, -, c3⟩ | ⟨-, c3⟩
    · rw [c2, if_neg t10, a, c3]
      dsimp only
      rw [if_neg t10]
      have v1b : 0 ≤ (lxN B n (lxE B n e)).toInt ∧ (lxN B n (lxE B n e)).toInt ≤ 5 := b.2.2
      generalize lxN B n (lxE B n e) = v1 at v1b d
      generalize lxE B n e = e1 at c1 d go
      generalize (F_X2_readNumber h' 29 0 5).2 = g1 at c1
      rw [cm_n0 (cp_M c1)]
      obtain ⟨c4, c5⟩ := c_readN c1 (lo := 1) (hi := S 0 0) (by decide)
      have eN := rm_n0 (rq_m d.1)
      generalize (F_X2_readNumber g1 29 1 (S 0 0)).2 = g2 at c4 c5 ⊢
      generalize (F_X2_readNumber g1 29 1 (S 0 0)).1 = y2 at c5 ⊢
      generalize lxE B n e1 = e2 at c4 c5 d go
      obtain ⟨rr, rw1, rw2⟩ := r_wr d
      have bad : SM T T2 h k0 B n nt e (0, g2) (0, rr) := sm_bad c4 rw2
      rw [d.2.2.2.1, d.2.2.2.2.2, rw1]
      by_cases k2 : lxK B n e2 = 2
      · rw [if_pos (lxR_i.1.mpr k2)]
        have ew : F_X5_isWinner r 49 (lxG B n e2) = if isS S (lxG B n e2) ∧ jrem (lxG B n e2) (S 0 1) = 0 then 1 else 0 := by
          unfold F_X5_isWinner
          simp only [letf]
          rw [rq_inS d, rm_n1 (rq_m d.1)]
          by_cases y : isS S (lxG B n e2)
          · rw [if_pos y, if_neg t10]
            by_cases z : jrem (lxG B n e2) (S 0 1) = 0
            · rw [if_pos z, if_pos ⟨y, z⟩]
            · rw [if_neg z, if_neg (fun y => z y.2)]
          · rw [if_neg y, if_pos rfl, if_neg (fun z => y z.1)]
        rcases lxG_in d w k2 with ⟨v, eG⟩ | ⟨v, nG⟩
        · rcases c5 with ⟨c5, -, c6⟩ | ⟨-, c6⟩
          · have hx := okV_isS v
            rw [eG] at ew ⊢
            rw [c5, if_neg t10, c6]
            have cw : F_X1_isWinner g2 17 (lxN B n e2) = if jrem (lxN B n e2) (S 0 1) = 0 then 1 else 0 := by
              unfold F_X1_isWinner
              rw [cm_n1 (cp_M c4), if_neg (fun y => by rw [y, e0] at ru; omega)]
            have num := r_num d (i := 1) (by decide) (lo := 1) (hi := S 0 0) (by omega)
            have io := rq_out d hx
            have ec := cq_thOn c4 (lxN B n e2)
            have er := rq_thOn d (lxN B n e2)
            have ei := cq_in c4 hx
            have cf : F_X1_isFreeForThing g2 17 (lxN B n e2) = if S 1 (lxN B n e2).toNatClampNeg = 1 ∧ thOn S (lxN B n e2) = -1 then 1 else 0 := by
              unfold F_X1_isFreeForThing
              simp only [letf]
              rw [ei, ec]
              rcases w.2.1 (lxN B n e2).toNatClampNeg with z | z
              · rw [z, if_pos rfl, if_neg (fun y => absurd y.1 (by decide))]
              · rw [z, if_neg t10]
                by_cases y : thOn S (lxN B n e2) = -1
                · rw [if_pos y, if_pos ⟨rfl, y⟩]
                · rw [if_neg y, if_neg (fun z => y z.2)]
            rw [cw, ew, cf, er, eN]
            by_cases j : jrem (lxN B n e2) (S 0 1) = 0
            · rw [if_pos j, if_neg t10, if_pos (⟨hx, j⟩ : isS S (lxN B n e2) ∧ jrem (lxN B n e2) (S 0 1) = 0), if_neg t10]
              by_cases z : S 1 (lxN B n e2).toNatClampNeg = 1
              · rw [if_pos (io.mpr z)]
                by_cases y : thOn S (lxN B n e2) = -1
                · rw [if_pos (⟨z, y⟩ : S 1 (lxN B n e2).toNatClampNeg = 1 ∧ thOn S (lxN B n e2) = -1), if_neg t10, if_pos y]
                  rcases num with ⟨r2, a2, b2, d2⟩ | ⟨r2, a2, b2, d2⟩
                  · have a2 : F_X5_number r 49 (1 : Int32) (1 : Int32) (S 0 0) = (1, r2) := a2
                    rw [a2]
                    dsimp only
                    rw [if_neg t10]
                    generalize lxN B n e2 = v2 at hx d2 z y ⊢
                    obtain ⟨c7, c8⟩ := c_readN c4 (lo := 0) (hi := 9) (by decide)
                    have go5 := lxE_le (B := B) c4.2.2.1
                    generalize lxE B n e2 = e3 at c7 c8 d2 go5
                    rcases r_num d2 (i := 2) (by decide) (lo := 0) (hi := 9) (by decide) with ⟨r3, a3, b3, d3⟩ | ⟨r3, a3, b3, d3⟩
                    · rcases c8 with ⟨c8, -, c9⟩ | ⟨-, c9⟩
                      · have a3 : F_X5_number r2 49 (2 : Int32) (0 : Int32) (9 : Int32) = (1, r3) := a3
                        rw [c8, if_neg t10, a3, c9]
                        dsimp only
                        rw [if_neg t10, (rp_D d3).1, (rp_D d3).2.1, (rp_D d3).2.2]
                        have u0 : upD (upD (upD D 0 v1) 1 v2) 2 (lxN B n e3) 0 = v1 := rfl
                        have u1 : upD (upD (upD D 0 v1) 1 v2) 2 (lxN B n e3) 1 = v2 := rfl
                        have vb : 0 ≤ (lxN B n e3).toInt ∧ (lxN B n e3).toInt ≤ 9 := b3.2.2
                        rw [u0, u1, upD_eq]
                        generalize lxN B n e3 = v3 at vb d3
                        obtain ⟨-, m1⟩ := cm_addT (cp_M c7) w h8 v1 v2 v3
                        have m2 := rm_addT (rq_m d3.1) w h8 v1 v2 v3
                        have hf : ∀ u, u < nT S → S 3 u ≠ v2 := by
                          rcases thOn_cases S v2 with y3 | ⟨u, hu, hu2, -⟩
                          · exact y3.2
                          · rw [y] at hu2
                            exact absurd hu2.symm (nm1 u (by omega))
                        have w' := WF_addT w h8 v1b hx vb z hf
                        have cs := clamp_s (x := S 0 7) (WF_th w).1 (by have := WF_th w; omega)
                        have nn : nT (adT S v1 v2 v3) = nT S + 1 := cs.2
                        have go6 := lxE_le (B := B) c7.2.2.1
                        exact sm_ok (cp_step (cp_cm c7 m1 w')) (rp_rm d3 m2 w') (by omega) (own_adT o w nn) (by omega)
                      · exact absurd b3 c9
                    · rcases c8 with ⟨-, c9, -⟩ | ⟨c8, -⟩
                      · exact absurd c9 b3
                      · have a3 : F_X5_number r2 49 (2 : Int32) (0 : Int32) (9 : Int32) = (0, r3) := a3
                        rw [c8, if_pos rfl, a3]
                        exact sm_bad c7 d3
                  · exact absurd v b2
                · rw [if_neg (show ¬ (S 1 (lxN B n e2).toNatClampNeg = 1 ∧ thOn S (lxN B n e2) = -1) from fun z => y z.2), if_pos (rfl : (0 : Int32) = 0), if_neg y]
                  exact bad
              · rw [if_neg (show ¬ (S 1 (lxN B n e2).toNatClampNeg = 1 ∧ thOn S (lxN B n e2) = -1) from fun y => z y.1), if_pos (rfl : (0 : Int32) = 0), if_neg (fun y => z (io.mp y))]
                exact bad
            · rw [if_neg j, if_pos (rfl : (0 : Int32) = 0), if_neg (show ¬ (isS S (lxN B n e2) ∧ jrem (lxN B n e2) (S 0 1) = 0) from fun y => j y.2), if_pos (rfl : (0 : Int32) = 0)]
              exact bad
          · exact absurd v c6
        · rw [if_neg (show ¬ (isS S (lxG B n e2) ∧ jrem (lxG B n e2) (S 0 1) = 0) from fun y => nG y.1)] at ew
          rcases c5 with ⟨-, c6, -⟩ | ⟨c5, -⟩
          · exact absurd c6 v
          · rw [ew, if_pos (rfl : (0 : Int32) = 0), c5, if_pos (rfl : (0 : Int32) = 0)]
            exact bad
      · rw [if_neg (fun y => k2 (lxR_i.1.mp y))]
        rcases c5 with ⟨-, c6, -⟩ | ⟨c5, -⟩
        · exact absurd c6.1 k2
        · rw [c5, if_pos rfl]
          exact bad
    · exact absurd b c3
  · rcases c2 with ⟨-, c3, -⟩ | ⟨c2, -⟩
    · exact absurd c3 b
    · rw [c2, if_pos rfl, a]
      exact sm_bad c1 d
end
