def W_X2_step : List (Nat × Nat) := [(2, 2), (2, 3), (2, 4), (2, 5)]
noncomputable def J_X2_step_j195 (h : zH) (c0 : Nat) (c1 : Int32) (s0 : Int32) (s1 : Nat) : zH := (letf (hput h s1 5 (.inl (.int s0))) (fun h24501 => h24501))
theorem w_X2_step_j195 {scr : List zV} {T0 T : List Nat} {d m : Nat} {r : Option zV} {h' h h0 : zH} {G : Nat → Prop → zS → Prop} {Pf : zH → Prop} {c0 : Nat} {c1 : Int32} {s0 : Int32} {s1 : Nat} (HG : G = GL ze_X2_step scr (zEc ze_X2_step) (zEs ze_X2_step) (zD zprog scr d) r h') (hsc : cT scr) (hR : ∀ hh, (none : Option zV) = r → hh = h' → kOK W_X2_step T0 T h0 hh → Pf hh) (K : kOK W_X2_step T0 T h0 h) (hq_c0 : T[c0]? = some 2) (hq_s1 : T[s1]? = some 2) : G m (Pf (J_X2_step_j195 h c0 c1 s0 s1)) (195, [(0, .inl (.ref c0)), (1, .inl (.int c1))], [.inl (.int s0), .inl (.ref s1)], h, 0, 0) := by
  unfold J_X2_step_j195
  refine k_putI HG rfl K hq_s1 rfl rfl rfl (fun h24501 K24501 => (?_ : G m _ (198, [(0, .inl (.ref c0)), (1, .inl (.int c1))], [], h24501, 0, 0)))
  exact k_retv HG rfl rfl (fun e1 e2 => hR _ e1 e2 K24501)
noncomputable def J_X2_step_j194 (h : zH) (c0 : Nat) (c1 : Int32) (s0 : Nat) : zH := (J_X2_step_j195 h c0 c1 (-1 : Int32) s0)
theorem w_X2_step_j194 {scr : List zV} {T0 T : List Nat} {d m : Nat} {r : Option zV} {h' h h0 : zH} {G : Nat → Prop → zS → Prop} {Pf : zH → Prop} {c0 : Nat} {c1 : Int32} {s0 : Nat} (HG : G = GL ze_X2_step scr (zEc ze_X2_step) (zEs ze_X2_step) (zD zprog scr d) r h') (hsc : cT scr) (hR : ∀ hh, (none : Option zV) = r → hh = h' → kOK W_X2_step T0 T h0 hh → Pf hh) (K : kOK W_X2_step T0 T h0 h) (hq_c0 : T[c0]? = some 2) (hq_s0 : T[s0]? = some 2) : G m (Pf (J_X2_step_j194 h c0 c1 s0)) (194, [(0, .inl (.ref c0)), (1, .inl (.int c1))], [.inl (.ref s0)], h, 0, 0) := by
  unfold J_X2_step_j194
  refine k_steps HG 1 (zB_iff.mpr (?_ : G m _ (195, [(0, .inl (.ref c0)), (1, .inl (.int c1))], [.inl (.int (-1 : Int32)), .inl (.ref s0)], h, 0, 0)))
  exact w_X2_step_j195 HG hsc hR K hq_c0 hq_s0
noncomputable def J_X2_step_j165 (h : zH) (c0 : Nat) (c1 : Int32) : zH := (if (hv h c0 2) = (2 : Int32) then (if (4 : Int32) < ((hv h c0 4) - (hv h c0 3)) then (J_X2_step_j194 h c0 c1 c0) else (letf (F_X2_numberOf h c0) (fun y21501 => (J_X2_step_j195 h c0 c1 y21501 c0)))) else (J_X2_step_j194 h c0 c1 c0))
theorem w_X2_step_j165 {scr : List zV} {T0 T : List Nat} {d m : Nat} {r : Option zV} {h' h h0 : zH} {G : Nat → Prop → zS → Prop} {Pf : zH → Prop} {c0 : Nat} {c1 : Int32} (HG : G = GL ze_X2_step scr (zEc ze_X2_step) (zEs ze_X2_step) (zD zprog scr d) r h') (hsc : cT scr) (hR : ∀ hh, (none : Option zV) = r → hh = h' → kOK W_X2_step T0 T h0 hh → Pf hh) (K : kOK W_X2_step T0 T h0 h) (hq_c0 : T[c0]? = some 2) : G m (Pf (J_X2_step_j165 h c0 c1)) (165, [(0, .inl (.ref c0)), (1, .inl (.int c1))], [], h, 0, 0) := by
  unfold J_X2_step_j165
  refine k_steps HG 2 (zB_iff.mpr (?_ : G m _ (167, [(0, .inl (.ref c0)), (1, .inl (.int c1))], [.inl (.ref c0), .inl (.ref c0)], h, 0, 0)))
  refine k_getI HG rfl K hq_c0 rfl (Nat.le_of_ble_eq_true rfl) rfl (?_ : G m _ (170, [(0, .inl (.ref c0)), (1, .inl (.int c1))], [.inl (.int (hv h c0 2)), .inl (.ref c0)], h, 0, 0))
  refine k_steps HG 2 (kb_ne (x := (hv h c0 2)) (y := (2 : Int32)) ?_ ?_)
  · show G m _ (194, [(0, .inl (.ref c0)), (1, .inl (.int c1))], [.inl (.ref c0)], h, 0, 0)
    exact w_X2_step_j194 HG hsc hR K hq_c0 hq_c0
  · show G m _ (174, [(0, .inl (.ref c0)), (1, .inl (.int c1))], [.inl (.ref c0)], h, 0, 0)
    refine k_steps HG 1 (zB_iff.mpr (?_ : G m _ (175, [(0, .inl (.ref c0)), (1, .inl (.int c1))], [.inl (.ref c0), .inl (.ref c0)], h, 0, 0)))
    refine k_getI HG rfl K hq_c0 rfl (Nat.le_of_ble_eq_true rfl) rfl (?_ : G m _ (178, [(0, .inl (.ref c0)), (1, .inl (.int c1))], [.inl (.int (hv h c0 4)), .inl (.ref c0)], h, 0, 0))
    refine k_steps HG 1 (zB_iff.mpr (?_ : G m _ (179, [(0, .inl (.ref c0)), (1, .inl (.int c1))], [.inl (.ref c0), .inl (.int (hv h c0 4)), .inl (.ref c0)], h, 0, 0)))
    refine k_getI HG rfl K hq_c0 rfl (Nat.le_of_ble_eq_true rfl) rfl (?_ : G m _ (182, [(0, .inl (.ref c0)), (1, .inl (.int c1))], [.inl (.int (hv h c0 3)), .inl (.int (hv h c0 4)), .inl (.ref c0)], h, 0, 0))
    refine k_steps HG 3 (kb_gt (x := ((hv h c0 4) - (hv h c0 3))) (y := (4 : Int32)) ?_ ?_)
    · show G m _ (194, [(0, .inl (.ref c0)), (1, .inl (.int c1))], [.inl (.ref c0)], h, 0, 0)
      exact w_X2_step_j194 HG hsc hR K hq_c0 hq_c0
    · show G m _ (187, [(0, .inl (.ref c0)), (1, .inl (.int c1))], [.inl (.ref c0)], h, 0, 0)
      refine k_steps HG 1 (zB_iff.mpr (?_ : G m _ (188, [(0, .inl (.ref c0)), (1, .inl (.int c1))], [.inl (.ref c0), .inl (.ref c0)], h, 0, 0)))
      refine k_cVI HG (E' := ze_X2_numberOf) (Or.inl ⟨rfl, rfl⟩) hsc rfl rfl rfl rfl rfl (fun hh => x_X2_numberOf hsc K.1 hq_c0 hh) (fun y21501 => (?_ : G m _ (191, [(0, .inl (.ref c0)), (1, .inl (.int c1))], [.inl (.int y21501), .inl (.ref c0)], h, 0, 0)))
      refine k_steps HG 1 (zB_iff.mpr (?_ : G m _ (195, [(0, .inl (.ref c0)), (1, .inl (.int c1))], [.inl (.int y21501), .inl (.ref c0)], h, 0, 0)))
      exact w_X2_step_j195 HG hsc hR K hq_c0 hq_c0
noncomputable def B_X2_step_118 (c0 : Nat) (c1 : Int32) (s : (zH)) : (zH) ⊕ (zH) := (if c1 = (0 : Int32) then (Sum.inr (J_X2_step_j165 s c0 c1)) else (if (hv s c0 4) < (hv s c0 1) then (letf (F_X2_sortOf (hv s (hr s c0 0) (hv s c0 4).toNatClampNeg)) (fun y2002 => (if y2002 = (hv s c0 2) then (letf (hput s c0 4 (.inl (.int ((hv s c0 4) + (1 : Int32))))) (fun h2003 => (Sum.inl h2003))) else (Sum.inr (J_X2_step_j165 s c0 c1))))) else (Sum.inr (J_X2_step_j165 s c0 c1))))
noncomputable def J_X2_step_j117 (h : zH) (c0 : Nat) (s0 : Int32) : zH := (fx (B_X2_step_118 c0 s0) [] h)
theorem w_X2_step_j117 {scr : List zV} {T0 T : List Nat} {d m : Nat} {r : Option zV} {h' h h0 : zH} {G : Nat → Prop → zS → Prop} {Pf : zH → Prop} {c0 : Nat} {s0 : Int32} (HG : G = GL ze_X2_step scr (zEc ze_X2_step) (zEs ze_X2_step) (zD zprog scr d) r h') (hsc : cT scr) (hR : ∀ hh, (none : Option zV) = r → hh = h' → kOK W_X2_step T0 T h0 hh → Pf hh) (K : kOK W_X2_step T0 T h0 h) (hq_c0 : T[c0]? = some 2) : G m (Pf (J_X2_step_j117 h c0 s0)) (117, [(0, .inl (.ref c0))], [.inl (.int s0)], h, 0, 0) := by
  unfold J_X2_step_j117
  refine k_steps HG 1 (zB_iff.mpr (?_ : G m _ (118, [(1, .inl (.int s0)), (0, .inl (.ref c0))], [], h, 0, 0)))
  have lp16701 : ∀ m16701, m16701 ≤ m → ∀ (h16701 : zH), kOK W_X2_step T0 T h0 h16701 → G m16701 (Pf (fx (B_X2_step_118 c0 s0) [] h16701)) (118, [(0, .inl (.ref c0)), (1, .inl (.int s0))], [], h16701, 0, 0) := by
    intro m16701
    induction m16701 with
    | zero =>
      intros
      exact k_zero HG
    | succ m16701 ih16701 =>
      intro le16701 h16701 K16701
      have le16701 := Nat.le_of_succ_le le16701
      have ih16701 := ih16701 le16701
      refine k_fx ?_
      rw [B_X2_step_118]
      refine k_first HG 1 (kb_eq (x := s0) (y := (0 : Int32)) ?_ ?_)
      · show G m16701 _ (165, [(0, .inl (.ref c0)), (1, .inl (.int s0))], [], h16701, 0, 0)
        exact w_X2_step_j165 HG hsc hR K16701 hq_c0
      · show G m16701 _ (122, [(0, .inl (.ref c0)), (1, .inl (.int s0))], [], h16701, 0, 0)
        refine k_steps HG 1 (zB_iff.mpr (?_ : G m16701 _ (123, [(0, .inl (.ref c0)), (1, .inl (.int s0))], [.inl (.ref c0)], h16701, 0, 0)))
        refine k_getI HG rfl K16701 hq_c0 rfl (Nat.le_of_ble_eq_true rfl) rfl (?_ : G m16701 _ (126, [(0, .inl (.ref c0)), (1, .inl (.int s0))], [.inl (.int (hv h16701 c0 4))], h16701, 0, 0))
        refine k_steps HG 1 (zB_iff.mpr (?_ : G m16701 _ (127, [(0, .inl (.ref c0)), (1, .inl (.int s0))], [.inl (.ref c0), .inl (.int (hv h16701 c0 4))], h16701, 0, 0)))
        refine k_getI HG rfl K16701 hq_c0 rfl (Nat.le_of_ble_eq_true rfl) rfl (?_ : G m16701 _ (130, [(0, .inl (.ref c0)), (1, .inl (.int s0))], [.inl (.int (hv h16701 c0 1)), .inl (.int (hv h16701 c0 4))], h16701, 0, 0))
        refine k_steps HG 1 (kb_ge (x := (hv h16701 c0 4)) (y := (hv h16701 c0 1)) ?_ ?_)
        · show G m16701 _ (165, [(0, .inl (.ref c0)), (1, .inl (.int s0))], [], h16701, 0, 0)
          exact w_X2_step_j165 HG hsc hR K16701 hq_c0
        · show G m16701 _ (133, [(0, .inl (.ref c0)), (1, .inl (.int s0))], [], h16701, 0, 0)
          refine k_steps HG 1 (zB_iff.mpr (?_ : G m16701 _ (134, [(0, .inl (.ref c0)), (1, .inl (.int s0))], [.inl (.ref c0)], h16701, 0, 0)))
          refine k_getR HG rfl K16701 hq_c0 rfl (Nat.le_of_ble_eq_true rfl) rfl rfl (fun t16702 => (?_ : G m16701 _ (137, [(0, .inl (.ref c0)), (1, .inl (.int s0))], [.inl (.ref (hr h16701 c0 0))], h16701, 0, 0)))
          refine k_steps HG 1 (zB_iff.mpr (?_ : G m16701 _ (138, [(0, .inl (.ref c0)), (1, .inl (.int s0))], [.inl (.ref c0), .inl (.ref (hr h16701 c0 0))], h16701, 0, 0)))
          refine k_getI HG rfl K16701 hq_c0 rfl (Nat.le_of_ble_eq_true rfl) rfl (?_ : G m16701 _ (141, [(0, .inl (.ref c0)), (1, .inl (.int s0))], [.inl (.int (hv h16701 c0 4)), .inl (.ref (hr h16701 c0 0))], h16701, 0, 0))
          refine k_iald HG rfl K16701 t16702 rfl (fun _ => rfl) (?_ : G m16701 _ (142, [(0, .inl (.ref c0)), (1, .inl (.int s0))], [.inl (.int (hv h16701 (hr h16701 c0 0) (hv h16701 c0 4).toNatClampNeg))], h16701, 0, 0))
          refine k_cSI HG (E' := ze_X2_sortOf) (Or.inl rfl) hsc rfl rfl rfl rfl (fun hh => x_X2_sortOf hsc hh) (fun y16703 => (?_ : G m16701 _ (145, [(0, .inl (.ref c0)), (1, .inl (.int s0))], [.inl (.int y16703)], h16701, 0, 0)))
          refine k_steps HG 1 (zB_iff.mpr (?_ : G m16701 _ (146, [(0, .inl (.ref c0)), (1, .inl (.int s0))], [.inl (.ref c0), .inl (.int y16703)], h16701, 0, 0)))
          refine k_getI HG rfl K16701 hq_c0 rfl (Nat.le_of_ble_eq_true rfl) rfl (?_ : G m16701 _ (149, [(0, .inl (.ref c0)), (1, .inl (.int s0))], [.inl (.int (hv h16701 c0 2)), .inl (.int y16703)], h16701, 0, 0))
          refine k_steps HG 1 (kb_ne (x := y16703) (y := (hv h16701 c0 2)) ?_ ?_)
          · show G m16701 _ (165, [(0, .inl (.ref c0)), (1, .inl (.int s0))], [], h16701, 0, 0)
            exact w_X2_step_j165 HG hsc hR K16701 hq_c0
          · show G m16701 _ (152, [(0, .inl (.ref c0)), (1, .inl (.int s0))], [], h16701, 0, 0)
            refine k_steps HG 2 (zB_iff.mpr (?_ : G m16701 _ (154, [(0, .inl (.ref c0)), (1, .inl (.int s0))], [.inl (.ref c0), .inl (.ref c0)], h16701, 0, 0)))
            refine k_getI HG rfl K16701 hq_c0 rfl (Nat.le_of_ble_eq_true rfl) rfl (?_ : G m16701 _ (157, [(0, .inl (.ref c0)), (1, .inl (.int s0))], [.inl (.int (hv h16701 c0 4)), .inl (.ref c0)], h16701, 0, 0))
            refine k_steps HG 2 (zB_iff.mpr (?_ : G m16701 _ (159, [(0, .inl (.ref c0)), (1, .inl (.int s0))], [.inl (.int ((hv h16701 c0 4) + (1 : Int32))), .inl (.ref c0)], h16701, 0, 0)))
            refine k_putI HG rfl K16701 hq_c0 rfl rfl rfl (fun h16704 K16704 => (?_ : G m16701 _ (162, [(0, .inl (.ref c0)), (1, .inl (.int s0))], [], h16704, 0, 0)))
            refine k_steps HG 1 (zB_iff.mpr (?_ : G m16701 _ (118, [(0, .inl (.ref c0)), (1, .inl (.int s0))], [], h16704, 0, 0)))
            exact ih16701 _ K16704
  refine k_ext HG (L' := [(0, .inl (.ref c0)), (1, .inl (.int s0))]) rfl rfl ⟨rfl, rfl, trivial⟩ ?_
  exact lp16701 m (Nat.le_refl _) _ K
noncomputable def J_X2_step_j112 (h : zH) (c0 : Nat) : zH := (J_X2_step_j117 h c0 (1 : Int32))
theorem w_X2_step_j112 {scr : List zV} {T0 T : List Nat} {d m : Nat} {r : Option zV} {h' h h0 : zH} {G : Nat → Prop → zS → Prop} {Pf : zH → Prop} {c0 : Nat} (HG : G = GL ze_X2_step scr (zEc ze_X2_step) (zEs ze_X2_step) (zD zprog scr d) r h') (hsc : cT scr) (hR : ∀ hh, (none : Option zV) = r → hh = h' → kOK W_X2_step T0 T h0 hh → Pf hh) (K : kOK W_X2_step T0 T h0 h) (hq_c0 : T[c0]? = some 2) : G m (Pf (J_X2_step_j112 h c0)) (112, [(0, .inl (.ref c0))], [], h, 0, 0) := by
  unfold J_X2_step_j112
  refine k_steps HG 2 (zB_iff.mpr (?_ : G m _ (117, [(0, .inl (.ref c0))], [.inl (.int (1 : Int32))], h, 0, 0)))
  exact w_X2_step_j117 HG hsc hR K hq_c0
noncomputable def J_X2_step_j93 (h : zH) (c0 : Nat) (s0 : Int32) (s1 : Nat) : zH := (letf (hput h s1 2 (.inl (.int s0))) (fun h14301 => (if (hv h14301 c0 2) = (1 : Int32) then (J_X2_step_j112 h14301 c0) else (if (hv h14301 c0 2) = (2 : Int32) then (J_X2_step_j112 h14301 c0) else (J_X2_step_j117 h14301 c0 (0 : Int32))))))
theorem w_X2_step_j93 {scr : List zV} {T0 T : List Nat} {d m : Nat} {r : Option zV} {h' h h0 : zH} {G : Nat → Prop → zS → Prop} {Pf : zH → Prop} {c0 : Nat} {s0 : Int32} {s1 : Nat} (HG : G = GL ze_X2_step scr (zEc ze_X2_step) (zEs ze_X2_step) (zD zprog scr d) r h') (hsc : cT scr) (hR : ∀ hh, (none : Option zV) = r → hh = h' → kOK W_X2_step T0 T h0 hh → Pf hh) (K : kOK W_X2_step T0 T h0 h) (hq_c0 : T[c0]? = some 2) (hq_s1 : T[s1]? = some 2) : G m (Pf (J_X2_step_j93 h c0 s0 s1)) (93, [(0, .inl (.ref c0))], [.inl (.int s0), .inl (.ref s1)], h, 0, 0) := by
  unfold J_X2_step_j93
  refine k_putI HG rfl K hq_s1 rfl rfl rfl (fun h14301 K14301 => (?_ : G m _ (96, [(0, .inl (.ref c0))], [], h14301, 0, 0)))
  refine k_steps HG 1 (zB_iff.mpr (?_ : G m _ (97, [(0, .inl (.ref c0))], [.inl (.ref c0)], h14301, 0, 0)))
  refine k_getI HG rfl K14301 hq_c0 rfl (Nat.le_of_ble_eq_true rfl) rfl (?_ : G m _ (100, [(0, .inl (.ref c0))], [.inl (.int (hv h14301 c0 2))], h14301, 0, 0))
  refine k_steps HG 2 (kb_eq (x := (hv h14301 c0 2)) (y := (1 : Int32)) ?_ ?_)
  · show G m _ (112, [(0, .inl (.ref c0))], [], h14301, 0, 0)
    exact w_X2_step_j112 HG hsc hR K14301 hq_c0
  · show G m _ (104, [(0, .inl (.ref c0))], [], h14301, 0, 0)
    refine k_steps HG 1 (zB_iff.mpr (?_ : G m _ (105, [(0, .inl (.ref c0))], [.inl (.ref c0)], h14301, 0, 0)))
    refine k_getI HG rfl K14301 hq_c0 rfl (Nat.le_of_ble_eq_true rfl) rfl (?_ : G m _ (108, [(0, .inl (.ref c0))], [.inl (.int (hv h14301 c0 2))], h14301, 0, 0))
    refine k_steps HG 2 (kb_ne (x := (hv h14301 c0 2)) (y := (2 : Int32)) ?_ ?_)
    · show G m _ (116, [(0, .inl (.ref c0))], [], h14301, 0, 0)
      refine k_steps HG 1 (zB_iff.mpr (?_ : G m _ (117, [(0, .inl (.ref c0))], [.inl (.int (0 : Int32))], h14301, 0, 0)))
      exact w_X2_step_j117 HG hsc hR K14301 hq_c0
    · show G m _ (112, [(0, .inl (.ref c0))], [], h14301, 0, 0)
      exact w_X2_step_j112 HG hsc hR K14301 hq_c0
noncomputable def J_X2_step_j48 (h : zH) (c0 : Nat) : zH := (letf (hput h c0 4 (.inl (.int (jmin ((hv h c0 3) + (1 : Int32)) (hv h c0 1))))) (fun h9801 => (if (hv h9801 c0 3) < (hv h9801 c0 1) then (letf (F_X2_sortOf (hv h9801 (hr h9801 c0 0) (hv h9801 c0 3).toNatClampNeg)) (fun y9803 => (J_X2_step_j93 h9801 c0 y9803 c0))) else (J_X2_step_j93 h9801 c0 (0 : Int32) c0))))
theorem w_X2_step_j48 {scr : List zV} {T0 T : List Nat} {d m : Nat} {r : Option zV} {h' h h0 : zH} {G : Nat → Prop → zS → Prop} {Pf : zH → Prop} {c0 : Nat} (HG : G = GL ze_X2_step scr (zEc ze_X2_step) (zEs ze_X2_step) (zD zprog scr d) r h') (hsc : cT scr) (hR : ∀ hh, (none : Option zV) = r → hh = h' → kOK W_X2_step T0 T h0 hh → Pf hh) (K : kOK W_X2_step T0 T h0 h) (hq_c0 : T[c0]? = some 2) : G m (Pf (J_X2_step_j48 h c0)) (48, [(0, .inl (.ref c0))], [], h, 0, 0) := by
  unfold J_X2_step_j48
  refine k_steps HG 2 (zB_iff.mpr (?_ : G m _ (50, [(0, .inl (.ref c0))], [.inl (.ref c0), .inl (.ref c0)], h, 0, 0)))
  refine k_getI HG rfl K hq_c0 rfl (Nat.le_of_ble_eq_true rfl) rfl (?_ : G m _ (53, [(0, .inl (.ref c0))], [.inl (.int (hv h c0 3)), .inl (.ref c0)], h, 0, 0))
  refine k_steps HG 3 (zB_iff.mpr (?_ : G m _ (56, [(0, .inl (.ref c0))], [.inl (.ref c0), .inl (.int ((hv h c0 3) + (1 : Int32))), .inl (.ref c0)], h, 0, 0)))
  refine k_getI HG rfl K hq_c0 rfl (Nat.le_of_ble_eq_true rfl) rfl (?_ : G m _ (59, [(0, .inl (.ref c0))], [.inl (.int (hv h c0 1)), .inl (.int ((hv h c0 3) + (1 : Int32))), .inl (.ref c0)], h, 0, 0))
  refine k_steps HG 1 (zB_iff.mpr (?_ : G m _ (62, [(0, .inl (.ref c0))], [.inl (.int (jmin ((hv h c0 3) + (1 : Int32)) (hv h c0 1))), .inl (.ref c0)], h, 0, 0)))
  refine k_putI HG rfl K hq_c0 rfl rfl rfl (fun h9801 K9801 => (?_ : G m _ (65, [(0, .inl (.ref c0))], [], h9801, 0, 0)))
  refine k_steps HG 2 (zB_iff.mpr (?_ : G m _ (67, [(0, .inl (.ref c0))], [.inl (.ref c0), .inl (.ref c0)], h9801, 0, 0)))
  refine k_getI HG rfl K9801 hq_c0 rfl (Nat.le_of_ble_eq_true rfl) rfl (?_ : G m _ (70, [(0, .inl (.ref c0))], [.inl (.int (hv h9801 c0 3)), .inl (.ref c0)], h9801, 0, 0))
  refine k_steps HG 1 (zB_iff.mpr (?_ : G m _ (71, [(0, .inl (.ref c0))], [.inl (.ref c0), .inl (.int (hv h9801 c0 3)), .inl (.ref c0)], h9801, 0, 0)))
  refine k_getI HG rfl K9801 hq_c0 rfl (Nat.le_of_ble_eq_true rfl) rfl (?_ : G m _ (74, [(0, .inl (.ref c0))], [.inl (.int (hv h9801 c0 1)), .inl (.int (hv h9801 c0 3)), .inl (.ref c0)], h9801, 0, 0))
  refine k_steps HG 1 (kb_ge (x := (hv h9801 c0 3)) (y := (hv h9801 c0 1)) ?_ ?_)
  · show G m _ (92, [(0, .inl (.ref c0))], [.inl (.ref c0)], h9801, 0, 0)
    refine k_steps HG 1 (zB_iff.mpr (?_ : G m _ (93, [(0, .inl (.ref c0))], [.inl (.int (0 : Int32)), .inl (.ref c0)], h9801, 0, 0)))
    exact w_X2_step_j93 HG hsc hR K9801 hq_c0 hq_c0
  · show G m _ (77, [(0, .inl (.ref c0))], [.inl (.ref c0)], h9801, 0, 0)
    refine k_steps HG 1 (zB_iff.mpr (?_ : G m _ (78, [(0, .inl (.ref c0))], [.inl (.ref c0), .inl (.ref c0)], h9801, 0, 0)))
    refine k_getR HG rfl K9801 hq_c0 rfl (Nat.le_of_ble_eq_true rfl) rfl rfl (fun t9802 => (?_ : G m _ (81, [(0, .inl (.ref c0))], [.inl (.ref (hr h9801 c0 0)), .inl (.ref c0)], h9801, 0, 0)))
    refine k_steps HG 1 (zB_iff.mpr (?_ : G m _ (82, [(0, .inl (.ref c0))], [.inl (.ref c0), .inl (.ref (hr h9801 c0 0)), .inl (.ref c0)], h9801, 0, 0)))
    refine k_getI HG rfl K9801 hq_c0 rfl (Nat.le_of_ble_eq_true rfl) rfl (?_ : G m _ (85, [(0, .inl (.ref c0))], [.inl (.int (hv h9801 c0 3)), .inl (.ref (hr h9801 c0 0)), .inl (.ref c0)], h9801, 0, 0))
    refine k_iald HG rfl K9801 t9802 rfl (fun _ => rfl) (?_ : G m _ (86, [(0, .inl (.ref c0))], [.inl (.int (hv h9801 (hr h9801 c0 0) (hv h9801 c0 3).toNatClampNeg)), .inl (.ref c0)], h9801, 0, 0))
    refine k_cSI HG (E' := ze_X2_sortOf) (Or.inl rfl) hsc rfl rfl rfl rfl (fun hh => x_X2_sortOf hsc hh) (fun y9803 => (?_ : G m _ (89, [(0, .inl (.ref c0))], [.inl (.int y9803), .inl (.ref c0)], h9801, 0, 0)))
    refine k_steps HG 1 (zB_iff.mpr (?_ : G m _ (93, [(0, .inl (.ref c0))], [.inl (.int y9803), .inl (.ref c0)], h9801, 0, 0)))
    exact w_X2_step_j93 HG hsc hR K9801 hq_c0 hq_c0
noncomputable def B_X2_step_8 (c0 : Nat) (s : (zH)) : (zH) ⊕ (zH) := (if (hv s c0 3) < (hv s c0 1) then (letf (F_X2_sortOf (hv s (hr s c0 0) (hv s c0 3).toNatClampNeg)) (fun y1002 => (if y1002 = (4 : Int32) then (letf (hput s c0 3 (.inl (.int ((hv s c0 3) + (1 : Int32))))) (fun h1003 => (Sum.inl h1003))) else (Sum.inr (J_X2_step_j48 s c0))))) else (Sum.inr (J_X2_step_j48 s c0)))
noncomputable def F_X2_step (h : zH) (q0 : Nat) : zH := (letf (hput h q0 3 (.inl (.int (hv h q0 4)))) (fun h1 => (fx (B_X2_step_8 q0) [] h1)))
theorem x_X2_step {scr : List zV} {T : List Nat} {h : zH} {q0 : Nat} (hsc : cT scr) (K : hOK kty T h) (hq_q0 : T[q0]? = some 2) (hh : cH h) : xH scr W_X2_step T T 75 [.inl (.ref q0)] h (F_X2_step h q0) := by
  refine xH_intro (E := ze_X2_step) hsc rfl (cTb_ok rfl) hh (fun d r h' G HG Pf hR m => ?_)
  have K := kOK_refl (W := W_X2_step) K
  unfold F_X2_step
  show G m _ (0, [(0, .inl (.ref q0))], [], h, 0, 0)
  refine k_steps HG 2 (zB_iff.mpr (?_ : G m _ (2, [(0, .inl (.ref q0))], [.inl (.ref q0), .inl (.ref q0)], h, 0, 0)))
  refine k_getI HG rfl K hq_q0 rfl (Nat.le_of_ble_eq_true rfl) rfl (?_ : G m _ (5, [(0, .inl (.ref q0))], [.inl (.int (hv h q0 4)), .inl (.ref q0)], h, 0, 0))
  refine k_putI HG rfl K hq_q0 rfl rfl rfl (fun h1 K1 => (?_ : G m _ (8, [(0, .inl (.ref q0))], [], h1, 0, 0)))
  have lp2 : ∀ m2, m2 ≤ m → ∀ (h2 : zH), kOK W_X2_step T T h h2 → G m2 (Pf (fx (B_X2_step_8 q0) [] h2)) (8, [(0, .inl (.ref q0))], [], h2, 0, 0) := by
    intro m2
    induction m2 with
    | zero =>
      intros
      exact k_zero HG
    | succ m2 ih2 =>
      intro le2 h2 K2
      have le2 := Nat.le_of_succ_le le2
      have ih2 := ih2 le2
      refine k_fx ?_
      rw [B_X2_step_8]
      refine k_first HG 0 (zB_iff.mpr (?_ : G m2 _ (9, [(0, .inl (.ref q0))], [.inl (.ref q0)], h2, 0, 0)))
      refine k_getI HG rfl K2 hq_q0 rfl (Nat.le_of_ble_eq_true rfl) rfl (?_ : G m2 _ (12, [(0, .inl (.ref q0))], [.inl (.int (hv h2 q0 3))], h2, 0, 0))
      refine k_steps HG 1 (zB_iff.mpr (?_ : G m2 _ (13, [(0, .inl (.ref q0))], [.inl (.ref q0), .inl (.int (hv h2 q0 3))], h2, 0, 0)))
      refine k_getI HG rfl K2 hq_q0 rfl (Nat.le_of_ble_eq_true rfl) rfl (?_ : G m2 _ (16, [(0, .inl (.ref q0))], [.inl (.int (hv h2 q0 1)), .inl (.int (hv h2 q0 3))], h2, 0, 0))
      refine k_steps HG 1 (kb_ge (x := (hv h2 q0 3)) (y := (hv h2 q0 1)) ?_ ?_)
      · show G m2 _ (48, [(0, .inl (.ref q0))], [], h2, 0, 0)
        exact w_X2_step_j48 HG hsc hR K2 hq_q0
      · show G m2 _ (19, [(0, .inl (.ref q0))], [], h2, 0, 0)
        refine k_steps HG 1 (zB_iff.mpr (?_ : G m2 _ (20, [(0, .inl (.ref q0))], [.inl (.ref q0)], h2, 0, 0)))
        refine k_getR HG rfl K2 hq_q0 rfl (Nat.le_of_ble_eq_true rfl) rfl rfl (fun t3 => (?_ : G m2 _ (23, [(0, .inl (.ref q0))], [.inl (.ref (hr h2 q0 0))], h2, 0, 0)))
        refine k_steps HG 1 (zB_iff.mpr (?_ : G m2 _ (24, [(0, .inl (.ref q0))], [.inl (.ref q0), .inl (.ref (hr h2 q0 0))], h2, 0, 0)))
        refine k_getI HG rfl K2 hq_q0 rfl (Nat.le_of_ble_eq_true rfl) rfl (?_ : G m2 _ (27, [(0, .inl (.ref q0))], [.inl (.int (hv h2 q0 3)), .inl (.ref (hr h2 q0 0))], h2, 0, 0))
        refine k_iald HG rfl K2 t3 rfl (fun _ => rfl) (?_ : G m2 _ (28, [(0, .inl (.ref q0))], [.inl (.int (hv h2 (hr h2 q0 0) (hv h2 q0 3).toNatClampNeg))], h2, 0, 0))
        refine k_cSI HG (E' := ze_X2_sortOf) (Or.inl rfl) hsc rfl rfl rfl rfl (fun hh => x_X2_sortOf hsc hh) (fun y4 => (?_ : G m2 _ (31, [(0, .inl (.ref q0))], [.inl (.int y4)], h2, 0, 0)))
        refine k_steps HG 2 (kb_ne (x := y4) (y := (4 : Int32)) ?_ ?_)
        · show G m2 _ (48, [(0, .inl (.ref q0))], [], h2, 0, 0)
          exact w_X2_step_j48 HG hsc hR K2 hq_q0
        · show G m2 _ (35, [(0, .inl (.ref q0))], [], h2, 0, 0)
          refine k_steps HG 2 (zB_iff.mpr (?_ : G m2 _ (37, [(0, .inl (.ref q0))], [.inl (.ref q0), .inl (.ref q0)], h2, 0, 0)))
          refine k_getI HG rfl K2 hq_q0 rfl (Nat.le_of_ble_eq_true rfl) rfl (?_ : G m2 _ (40, [(0, .inl (.ref q0))], [.inl (.int (hv h2 q0 3)), .inl (.ref q0)], h2, 0, 0))
          refine k_steps HG 2 (zB_iff.mpr (?_ : G m2 _ (42, [(0, .inl (.ref q0))], [.inl (.int ((hv h2 q0 3) + (1 : Int32))), .inl (.ref q0)], h2, 0, 0)))
          refine k_putI HG rfl K2 hq_q0 rfl rfl rfl (fun h5 K5 => (?_ : G m2 _ (45, [(0, .inl (.ref q0))], [], h5, 0, 0)))
          refine k_steps HG 1 (zB_iff.mpr (?_ : G m2 _ (8, [(0, .inl (.ref q0))], [], h5, 0, 0)))
          exact ih2 _ K5
  exact lp2 m (Nat.le_refl _) _ K1
def W_X4_image : List (Nat × Nat) := [(1, 0), (1, 1), (1, 2), (1, 3), (1, 4), (1, 5), (1, 6), (1, 7), (1, 8), (1, 14), (4, 7), (11, 1000), (12, 1000), (13, 1000), (14, 1000), (15, 1000), (16, 1000), (17, 1000)]
noncomputable def F_X4_image (h : zH) (q0 : Nat) : Int32 × zH := (letf (F_X1_become h (hr h q0 1) (hr h q0 0)) (fun h3 => (letf (hput h3 q0 7 (.inl (.int (1 : Int32)))) (fun h4 => ((1 : Int32), h4)))))
theorem x_X4_image {scr : List zV} {T : List Nat} {h : zH} {q0 : Nat} (hsc : cT scr) (K : hOK kty T h) (hq_q0 : T[q0]? = some 4) (hh : cH h) : xIH scr W_X4_image T T 114 [.inl (.ref q0)] h (F_X4_image h q0) := by
  refine xIH_intro (E := ze_X4_image) hsc rfl (cTb_ok rfl) hh (fun d r h' G HG Pf hR m => ?_)
  have K := kOK_refl (W := W_X4_image) K
  unfold F_X4_image
  show G m _ (0, [(0, .inl (.ref q0))], [], h, 0, 0)
  refine k_steps HG 1 (zB_iff.mpr (?_ : G m _ (1, [(0, .inl (.ref q0))], [.inl (.ref q0)], h, 0, 0)))
  refine k_getR HG rfl K hq_q0 rfl (Nat.le_of_ble_eq_true rfl) rfl rfl (fun t1 => (?_ : G m _ (4, [(0, .inl (.ref q0))], [.inl (.ref (hr h q0 1))], h, 0, 0)))
  refine k_steps HG 1 (zB_iff.mpr (?_ : G m _ (5, [(0, .inl (.ref q0))], [.inl (.ref q0), .inl (.ref (hr h q0 1))], h, 0, 0)))
  refine k_getR HG rfl K hq_q0 rfl (Nat.le_of_ble_eq_true rfl) rfl rfl (fun t2 => (?_ : G m _ (8, [(0, .inl (.ref q0))], [.inl (.ref (hr h q0 0)), .inl (.ref (hr h q0 1))], h, 0, 0)))
  refine k_cVH HG (E' := ze_X1_become) (Or.inl ⟨rfl, rfl⟩) hsc rfl rfl rfl rfl rfl K rfl (fun hh => x_X1_become hsc K.1 t1 t2 hh) (fun h3 K3 => (?_ : G m _ (11, [(0, .inl (.ref q0))], [], h3, 0, 0)))
  refine k_steps HG 2 (zB_iff.mpr (?_ : G m _ (13, [(0, .inl (.ref q0))], [.inl (.int (1 : Int32)), .inl (.ref q0)], h3, 0, 0)))
  refine k_putI HG rfl K3 hq_q0 rfl rfl rfl (fun h4 K4 => (?_ : G m _ (16, [(0, .inl (.ref q0))], [], h4, 0, 0)))
  refine k_steps HG 1 (zB_iff.mpr (?_ : G m _ (17, [(0, .inl (.ref q0))], [.inl (.int (1 : Int32))], h4, 0, 0)))
  exact k_reti HG rfl rfl (fun e1 e2 => hR _ _ e1 e2 K4)
def W_X4_refuse : List (Nat × Nat) := [(23, 1000)]
noncomputable def F_X4_refuse (h : zH) (q0 : Nat) (a1 : Int32) : Int32 × zH := (letf (F_X4_isWithin ((-2 : Int32) - a1) (0 : Int32) (4 : Int32)) (fun y1 => (if y1 = (0 : Int32) then (a1, h) else (letf (hput h (hr h q0 6) ((-2 : Int32) - a1).toNatClampNeg (.inl (.int ((hv h (hr h q0 6) ((-2 : Int32) - a1).toNatClampNeg) + (1 : Int32))))) (fun h3 => (a1, h3))))))
theorem x_X4_refuse {scr : List zV} {T : List Nat} {h : zH} {q0 : Nat} {a1 : Int32} (hsc : cT scr) (K : hOK kty T h) (hq_q0 : T[q0]? = some 4) (hh : cH h) : xIH scr W_X4_refuse T T 129 [.inl (.ref q0), .inl (.int a1)] h (F_X4_refuse h q0 a1) := by
  refine xIH_intro (E := ze_X4_refuse) hsc rfl (cTb_ok rfl) hh (fun d r h' G HG Pf hR m => ?_)
  have K := kOK_refl (W := W_X4_refuse) K
  unfold F_X4_refuse
  show G m _ (0, [(0, .inl (.ref q0)), (1, .inl (.int a1))], [], h, 0, 0)
  refine k_steps HG 7 (zB_iff.mpr (?_ : G m _ (8, [(2, .inl (.int ((-2 : Int32) - a1))), (0, .inl (.ref q0)), (1, .inl (.int a1))], [.inl (.int (4 : Int32)), .inl (.int (0 : Int32)), .inl (.int ((-2 : Int32) - a1))], h, 0, 0)))
  refine k_cSI HG (E' := ze_X4_isWithin) (Or.inl rfl) hsc rfl rfl rfl rfl (fun hh => x_X4_isWithin hsc hh) (fun y1 => (?_ : G m _ (11, [(2, .inl (.int ((-2 : Int32) - a1))), (0, .inl (.ref q0)), (1, .inl (.int a1))], [.inl (.int y1)], h, 0, 0)))
  refine k_steps HG 1 (kb_eq (x := y1) (y := (0 : Int32)) ?_ ?_)
  · show G m _ (24, [(2, .inl (.int ((-2 : Int32) - a1))), (0, .inl (.ref q0)), (1, .inl (.int a1))], [], h, 0, 0)
    refine k_steps HG 1 (zB_iff.mpr (?_ : G m _ (25, [(2, .inl (.int ((-2 : Int32) - a1))), (0, .inl (.ref q0)), (1, .inl (.int a1))], [.inl (.int a1)], h, 0, 0)))
    exact k_reti HG rfl rfl (fun e1 e2 => hR _ _ e1 e2 K)
  · show G m _ (14, [(2, .inl (.int ((-2 : Int32) - a1))), (0, .inl (.ref q0)), (1, .inl (.int a1))], [], h, 0, 0)
    refine k_steps HG 1 (zB_iff.mpr (?_ : G m _ (15, [(2, .inl (.int ((-2 : Int32) - a1))), (0, .inl (.ref q0)), (1, .inl (.int a1))], [.inl (.ref q0)], h, 0, 0)))
    refine k_getR HG rfl K hq_q0 rfl (Nat.le_of_ble_eq_true rfl) rfl rfl (fun t2 => (?_ : G m _ (18, [(2, .inl (.int ((-2 : Int32) - a1))), (0, .inl (.ref q0)), (1, .inl (.int a1))], [.inl (.ref (hr h q0 6))], h, 0, 0)))
    refine k_steps HG 2 (zB_iff.mpr (?_ : G m _ (20, [(2, .inl (.int ((-2 : Int32) - a1))), (0, .inl (.ref q0)), (1, .inl (.int a1))], [.inl (.int ((-2 : Int32) - a1)), .inl (.ref (hr h q0 6)), .inl (.int ((-2 : Int32) - a1)), .inl (.ref (hr h q0 6))], h, 0, 0)))
    refine k_iald HG rfl K t2 rfl (fun _ => rfl) (?_ : G m _ (21, [(2, .inl (.int ((-2 : Int32) - a1))), (0, .inl (.ref q0)), (1, .inl (.int a1))], [.inl (.int (hv h (hr h q0 6) ((-2 : Int32) - a1).toNatClampNeg)), .inl (.int ((-2 : Int32) - a1)), .inl (.ref (hr h q0 6))], h, 0, 0))
    refine k_steps HG 2 (zB_iff.mpr (?_ : G m _ (23, [(2, .inl (.int ((-2 : Int32) - a1))), (0, .inl (.ref q0)), (1, .inl (.int a1))], [.inl (.int ((hv h (hr h q0 6) ((-2 : Int32) - a1).toNatClampNeg) + (1 : Int32))), .inl (.int ((-2 : Int32) - a1)), .inl (.ref (hr h q0 6))], h, 0, 0)))
    refine k_iast HG rfl K t2 rfl (fun _ => rfl) rfl (fun h3 K3 => (?_ : G m _ (24, [(2, .inl (.int ((-2 : Int32) - a1))), (0, .inl (.ref q0)), (1, .inl (.int a1))], [], h3, 0, 0)))
    refine k_steps HG 1 (zB_iff.mpr (?_ : G m _ (25, [(2, .inl (.int ((-2 : Int32) - a1))), (0, .inl (.ref q0)), (1, .inl (.int a1))], [.inl (.int a1)], h3, 0, 0)))
    exact k_reti HG rfl rfl (fun e1 e2 => hR _ _ e1 e2 K3)
def W_X5_buyer : List (Nat × Nat) := [(5, 23), (30, 1000), (37, 1000), (39, 1000)]
noncomputable def F_X5_buyer (h : zH) (q0 : Nat) (a1 : Int32) : Int32 × zH := (letf (F_X5_in (Int32.toInt64 a1) (0 : Int64) (9999 : Int64)) (fun y1 => (if y1 = (0 : Int32) then (letf (F_X5_refuse h q0 (-2 : Int32)) (fun y4 => (y4.1, y4.2))) else (if (hv h q0 23) = (4 : Int32) then (letf (F_X5_refuse h q0 (-6 : Int32)) (fun y3 => (y3.1, y3.2))) else (letf (F_X5_addBuyer h q0 a1) (fun h2 => (((hv h2 q0 23) - (1 : Int32)), h2)))))))
theorem x_X5_buyer {scr : List zV} {T : List Nat} {h : zH} {q0 : Nat} {a1 : Int32} (hsc : cT scr) (K : hOK kty T h) (hq_q0 : T[q0]? = some 5) (hh : cH h) : xIH scr W_X5_buyer T T 164 [.inl (.ref q0), .inl (.int a1)] h (F_X5_buyer h q0 a1) := by
  refine xIH_intro (E := ze_X5_buyer) hsc rfl (cTb_ok rfl) hh (fun d r h' G HG Pf hR m => ?_)
  have K := kOK_refl (W := W_X5_buyer) K
  unfold F_X5_buyer
  show G m _ (0, [(0, .inl (.ref q0)), (1, .inl (.int a1))], [], h, 0, 0)
  refine k_steps HG 4 (zB_iff.mpr (?_ : G m _ (6, [(0, .inl (.ref q0)), (1, .inl (.int a1))], [.inl (.long (9999 : Int64)), .inl (.long (0 : Int64)), .inl (.long (Int32.toInt64 a1))], h, 0, 0)))
  refine k_cSI HG (E' := ze_X5_in) (Or.inl rfl) hsc rfl rfl rfl rfl (fun hh => x_X5_in hsc hh) (fun y1 => (?_ : G m _ (9, [(0, .inl (.ref q0)), (1, .inl (.int a1))], [.inl (.int y1)], h, 0, 0)))
  refine k_steps HG 1 (kb_ne (x := y1) (y := (0 : Int32)) ?_ ?_)
  · show G m _ (19, [(0, .inl (.ref q0)), (1, .inl (.int a1))], [], h, 0, 0)
    refine k_steps HG 1 (zB_iff.mpr (?_ : G m _ (20, [(0, .inl (.ref q0)), (1, .inl (.int a1))], [.inl (.ref q0)], h, 0, 0)))
    refine k_getI HG rfl K hq_q0 rfl (Nat.le_of_ble_eq_true rfl) rfl (?_ : G m _ (23, [(0, .inl (.ref q0)), (1, .inl (.int a1))], [.inl (.int (hv h q0 23))], h, 0, 0))
    refine k_steps HG 2 (kb_ne (x := (hv h q0 23)) (y := (4 : Int32)) ?_ ?_)
    · show G m _ (34, [(0, .inl (.ref q0)), (1, .inl (.int a1))], [], h, 0, 0)
      refine k_steps HG 2 (zB_iff.mpr (?_ : G m _ (36, [(0, .inl (.ref q0)), (1, .inl (.int a1))], [.inl (.int a1), .inl (.ref q0)], h, 0, 0)))
      refine k_cVH HG (E' := ze_X5_addBuyer) (Or.inl ⟨rfl, rfl⟩) hsc rfl rfl rfl rfl rfl K rfl (fun hh => x_X5_addBuyer hsc K.1 hq_q0 hh) (fun h2 K2 => (?_ : G m _ (39, [(0, .inl (.ref q0)), (1, .inl (.int a1))], [], h2, 0, 0)))
      refine k_steps HG 1 (zB_iff.mpr (?_ : G m _ (40, [(0, .inl (.ref q0)), (1, .inl (.int a1))], [.inl (.ref q0)], h2, 0, 0)))
      refine k_getI HG rfl K2 hq_q0 rfl (Nat.le_of_ble_eq_true rfl) rfl (?_ : G m _ (43, [(0, .inl (.ref q0)), (1, .inl (.int a1))], [.inl (.int (hv h2 q0 23))], h2, 0, 0))
      refine k_steps HG 2 (zB_iff.mpr (?_ : G m _ (45, [(0, .inl (.ref q0)), (1, .inl (.int a1))], [.inl (.int ((hv h2 q0 23) - (1 : Int32)))], h2, 0, 0)))
      exact k_reti HG rfl rfl (fun e1 e2 => hR _ _ e1 e2 K2)
    · show G m _ (27, [(0, .inl (.ref q0)), (1, .inl (.int a1))], [], h, 0, 0)
      refine k_steps HG 2 (zB_iff.mpr (?_ : G m _ (30, [(0, .inl (.ref q0)), (1, .inl (.int a1))], [.inl (.int (-6 : Int32)), .inl (.ref q0)], h, 0, 0)))
      refine k_cVIH HG (E' := ze_X5_refuse) (Or.inl ⟨rfl, rfl⟩) hsc rfl rfl rfl rfl rfl K rfl (fun hh => x_X5_refuse hsc K.1 hq_q0 hh) (fun y3 K3 => (?_ : G m _ (33, [(0, .inl (.ref q0)), (1, .inl (.int a1))], [.inl (.int y3.1)], y3.2, 0, 0)))
      exact k_reti HG rfl rfl (fun e1 e2 => hR _ _ e1 e2 K3)
  · show G m _ (12, [(0, .inl (.ref q0)), (1, .inl (.int a1))], [], h, 0, 0)
    refine k_steps HG 2 (zB_iff.mpr (?_ : G m _ (15, [(0, .inl (.ref q0)), (1, .inl (.int a1))], [.inl (.int (-2 : Int32)), .inl (.ref q0)], h, 0, 0)))
    refine k_cVIH HG (E' := ze_X5_refuse) (Or.inl ⟨rfl, rfl⟩) hsc rfl rfl rfl rfl rfl K rfl (fun hh => x_X5_refuse hsc K.1 hq_q0 hh) (fun y4 K4 => (?_ : G m _ (18, [(0, .inl (.ref q0)), (1, .inl (.int a1))], [.inl (.int y4.1)], y4.2, 0, 0)))
    exact k_reti HG rfl rfl (fun e1 e2 => hR _ _ e1 e2 K4)
noncomputable def F_X5_canDraw (h : zH) (q0 : Nat) (a1 : Int32) : Int32 := (letf (F_X5_in (Int32.toInt64 a1) (1 : Int64) (Int32.toInt64 (hv h q0 9))) (fun y1 => (if y1 = (0 : Int32) then (0 : Int32) else (if (hv h (hr h q0 16) a1.toNatClampNeg) = (0 : Int32) then (letf (F_X5_thingOn h q0 a1) (fun y3 => (if y3 = (-1 : Int32) then (1 : Int32) else (if (hv h (hr h q0 22) y3.toNatClampNeg) = (-1 : Int32) then (letf (F_X5_inside h q0) (fun y5 => (letf (F_X5_isFree h q0 y3 (hv h q0 13) y5) (fun y6 => (if y6 = (0 : Int32) then (0 : Int32) else (1 : Int32)))))) else (1 : Int32))))) else (0 : Int32)))))
theorem x_X5_canDraw {scr : List zV} {T : List Nat} {h : zH} {q0 : Nat} {a1 : Int32} (hsc : cT scr) (K : hOK kty T h) (hq_q0 : T[q0]? = some 5) (hh : cH h) : xI scr 166 [.inl (.ref q0), .inl (.int a1)] h (F_X5_canDraw h q0 a1) := by
  refine xI_intro (E := ze_X5_canDraw) hsc rfl (cTb_ok rfl) hh (fun d r h' G HG Pf hR m => ?_)
  have K := kOK_refl (W := []) K
  unfold F_X5_canDraw
  show G m _ (0, [(0, .inl (.ref q0)), (1, .inl (.int a1))], [], h, 0, 0)
  refine k_steps HG 4 (zB_iff.mpr (?_ : G m _ (4, [(0, .inl (.ref q0)), (1, .inl (.int a1))], [.inl (.ref q0), .inl (.long (1 : Int64)), .inl (.long (Int32.toInt64 a1))], h, 0, 0)))
  refine k_getI HG rfl K hq_q0 rfl (Nat.le_of_ble_eq_true rfl) rfl (?_ : G m _ (7, [(0, .inl (.ref q0)), (1, .inl (.int a1))], [.inl (.int (hv h q0 9)), .inl (.long (1 : Int64)), .inl (.long (Int32.toInt64 a1))], h, 0, 0))
  refine k_steps HG 1 (zB_iff.mpr (?_ : G m _ (8, [(0, .inl (.ref q0)), (1, .inl (.int a1))], [.inl (.long (Int32.toInt64 (hv h q0 9))), .inl (.long (1 : Int64)), .inl (.long (Int32.toInt64 a1))], h, 0, 0)))
  refine k_cSI HG (E' := ze_X5_in) (Or.inl rfl) hsc rfl rfl rfl rfl (fun hh => x_X5_in hsc hh) (fun y1 => (?_ : G m _ (11, [(0, .inl (.ref q0)), (1, .inl (.int a1))], [.inl (.int y1)], h, 0, 0)))
  refine k_steps HG 1 (kb_eq (x := y1) (y := (0 : Int32)) ?_ ?_)
  · show G m _ (23, [(0, .inl (.ref q0)), (1, .inl (.int a1))], [], h, 0, 0)
    refine k_steps HG 1 (zB_iff.mpr (?_ : G m _ (24, [(0, .inl (.ref q0)), (1, .inl (.int a1))], [.inl (.int (0 : Int32))], h, 0, 0)))
    exact k_retz HG rfl rfl (fun e1 e2 => hR _ e1 e2)
  · show G m _ (14, [(0, .inl (.ref q0)), (1, .inl (.int a1))], [], h, 0, 0)
    refine k_steps HG 1 (zB_iff.mpr (?_ : G m _ (15, [(0, .inl (.ref q0)), (1, .inl (.int a1))], [.inl (.ref q0)], h, 0, 0)))
    refine k_getR HG rfl K hq_q0 rfl (Nat.le_of_ble_eq_true rfl) rfl rfl (fun t2 => (?_ : G m _ (18, [(0, .inl (.ref q0)), (1, .inl (.int a1))], [.inl (.ref (hr h q0 16))], h, 0, 0)))
    refine k_steps HG 1 (zB_iff.mpr (?_ : G m _ (19, [(0, .inl (.ref q0)), (1, .inl (.int a1))], [.inl (.int a1), .inl (.ref (hr h q0 16))], h, 0, 0)))
    refine k_iald HG rfl K t2 rfl (fun _ => rfl) (?_ : G m _ (20, [(0, .inl (.ref q0)), (1, .inl (.int a1))], [.inl (.int (hv h (hr h q0 16) a1.toNatClampNeg))], h, 0, 0))
    refine k_steps HG 1 (kb_eq (x := (hv h (hr h q0 16) a1.toNatClampNeg)) (y := (0 : Int32)) ?_ ?_)
    · show G m _ (25, [(0, .inl (.ref q0)), (1, .inl (.int a1))], [], h, 0, 0)
      refine k_steps HG 2 (zB_iff.mpr (?_ : G m _ (27, [(0, .inl (.ref q0)), (1, .inl (.int a1))], [.inl (.int a1), .inl (.ref q0)], h, 0, 0)))
      refine k_cVI HG (E' := ze_X5_thingOn) (Or.inl ⟨rfl, rfl⟩) hsc rfl rfl rfl rfl rfl (fun hh => x_X5_thingOn hsc K.1 hq_q0 hh) (fun y3 => (?_ : G m _ (30, [(0, .inl (.ref q0)), (1, .inl (.int a1))], [.inl (.int y3)], h, 0, 0)))
      refine k_steps HG 4 (kb_eq (x := y3) (y := (-1 : Int32)) ?_ ?_)
      · show G m _ (62, [(2, .inl (.int y3)), (0, .inl (.ref q0)), (1, .inl (.int a1))], [], h, 0, 0)
        refine k_steps HG 2 (zB_iff.mpr (?_ : G m _ (67, [(2, .inl (.int y3)), (0, .inl (.ref q0)), (1, .inl (.int a1))], [.inl (.int (1 : Int32))], h, 0, 0)))
        exact k_retz HG rfl rfl (fun e1 e2 => hR _ e1 e2)
      · show G m _ (36, [(2, .inl (.int y3)), (0, .inl (.ref q0)), (1, .inl (.int a1))], [], h, 0, 0)
        refine k_steps HG 1 (zB_iff.mpr (?_ : G m _ (37, [(2, .inl (.int y3)), (0, .inl (.ref q0)), (1, .inl (.int a1))], [.inl (.ref q0)], h, 0, 0)))
        refine k_getR HG rfl K hq_q0 rfl (Nat.le_of_ble_eq_true rfl) rfl rfl (fun t4 => (?_ : G m _ (40, [(2, .inl (.int y3)), (0, .inl (.ref q0)), (1, .inl (.int a1))], [.inl (.ref (hr h q0 22))], h, 0, 0)))
        refine k_steps HG 1 (zB_iff.mpr (?_ : G m _ (41, [(2, .inl (.int y3)), (0, .inl (.ref q0)), (1, .inl (.int a1))], [.inl (.int y3), .inl (.ref (hr h q0 22))], h, 0, 0)))
        refine k_iald HG rfl K t4 rfl (fun _ => rfl) (?_ : G m _ (42, [(2, .inl (.int y3)), (0, .inl (.ref q0)), (1, .inl (.int a1))], [.inl (.int (hv h (hr h q0 22) y3.toNatClampNeg))], h, 0, 0))
        refine k_steps HG 2 (kb_ne (x := (hv h (hr h q0 22) y3.toNatClampNeg)) (y := (-1 : Int32)) ?_ ?_)
        · show G m _ (62, [(2, .inl (.int y3)), (0, .inl (.ref q0)), (1, .inl (.int a1))], [], h, 0, 0)
          refine k_steps HG 2 (zB_iff.mpr (?_ : G m _ (67, [(2, .inl (.int y3)), (0, .inl (.ref q0)), (1, .inl (.int a1))], [.inl (.int (1 : Int32))], h, 0, 0)))
          exact k_retz HG rfl rfl (fun e1 e2 => hR _ e1 e2)
        · show G m _ (46, [(2, .inl (.int y3)), (0, .inl (.ref q0)), (1, .inl (.int a1))], [], h, 0, 0)
          refine k_steps HG 3 (zB_iff.mpr (?_ : G m _ (49, [(2, .inl (.int y3)), (0, .inl (.ref q0)), (1, .inl (.int a1))], [.inl (.ref q0), .inl (.int y3), .inl (.ref q0)], h, 0, 0)))
          refine k_getI HG rfl K hq_q0 rfl (Nat.le_of_ble_eq_true rfl) rfl (?_ : G m _ (52, [(2, .inl (.int y3)), (0, .inl (.ref q0)), (1, .inl (.int a1))], [.inl (.int (hv h q0 13)), .inl (.int y3), .inl (.ref q0)], h, 0, 0))
          refine k_steps HG 1 (zB_iff.mpr (?_ : G m _ (53, [(2, .inl (.int y3)), (0, .inl (.ref q0)), (1, .inl (.int a1))], [.inl (.ref q0), .inl (.int (hv h q0 13)), .inl (.int y3), .inl (.ref q0)], h, 0, 0)))
          refine k_cVI HG (E' := ze_X5_inside) (Or.inl ⟨rfl, rfl⟩) hsc rfl rfl rfl rfl rfl (fun hh => x_X5_inside hsc K.1 hq_q0 hh) (fun y5 => (?_ : G m _ (56, [(2, .inl (.int y3)), (0, .inl (.ref q0)), (1, .inl (.int a1))], [.inl (.int y5), .inl (.int (hv h q0 13)), .inl (.int y3), .inl (.ref q0)], h, 0, 0)))
          refine k_cVI HG (E' := ze_X5_isFree) (Or.inl ⟨rfl, rfl⟩) hsc rfl rfl rfl rfl rfl (fun hh => x_X5_isFree hsc K.1 hq_q0 hh) (fun y6 => (?_ : G m _ (59, [(2, .inl (.int y3)), (0, .inl (.ref q0)), (1, .inl (.int a1))], [.inl (.int y6)], h, 0, 0)))
          refine k_steps HG 1 (kb_eq (x := y6) (y := (0 : Int32)) ?_ ?_)
          · show G m _ (66, [(2, .inl (.int y3)), (0, .inl (.ref q0)), (1, .inl (.int a1))], [], h, 0, 0)
            refine k_steps HG 1 (zB_iff.mpr (?_ : G m _ (67, [(2, .inl (.int y3)), (0, .inl (.ref q0)), (1, .inl (.int a1))], [.inl (.int (0 : Int32))], h, 0, 0)))
            exact k_retz HG rfl rfl (fun e1 e2 => hR _ e1 e2)
          · show G m _ (62, [(2, .inl (.int y3)), (0, .inl (.ref q0)), (1, .inl (.int a1))], [], h, 0, 0)
            refine k_steps HG 2 (zB_iff.mpr (?_ : G m _ (67, [(2, .inl (.int y3)), (0, .inl (.ref q0)), (1, .inl (.int a1))], [.inl (.int (1 : Int32))], h, 0, 0)))
            exact k_retz HG rfl rfl (fun e1 e2 => hR _ e1 e2)
    · show G m _ (23, [(0, .inl (.ref q0)), (1, .inl (.int a1))], [], h, 0, 0)
      refine k_steps HG 1 (zB_iff.mpr (?_ : G m _ (24, [(0, .inl (.ref q0)), (1, .inl (.int a1))], [.inl (.int (0 : Int32))], h, 0, 0)))
      exact k_retz HG rfl rfl (fun e1 e2 => hR _ e1 e2)
noncomputable def F_X5_canDraw_6 (h : zH) (q0 : Nat) (a1 : Int32) : Int32 := (letf (F_X5_in (Int32.toInt64 a1) (1 : Int64) (Int32.toInt64 (hv h q0 9))) (fun y1 => (if y1 = (0 : Int32) then (0 : Int32) else (if (hv h (hr h q0 16) a1.toNatClampNeg) = (0 : Int32) then (letf (F_X5_thingOn_6 h q0 a1) (fun y3 => (if y3 = (-1 : Int32) then (1 : Int32) else (if (hv h (hr h q0 22) y3.toNatClampNeg) = (-1 : Int32) then (letf (F_X5_inside_6 h q0) (fun y5 => (letf (F_X5_isFree_6 h q0 y3 (hv h q0 13) y5) (fun y6 => (if y6 = (0 : Int32) then (0 : Int32) else (1 : Int32)))))) else (1 : Int32))))) else (0 : Int32)))))
theorem x_X5_canDraw_6 {scr : List zV} {T : List Nat} {h : zH} {q0 : Nat} {a1 : Int32} (hsc : cT scr) (K : hOK kty T h) (hq_q0 : T[q0]? = some 6) (hh : cH h) : xI scr 166 [.inl (.ref q0), .inl (.int a1)] h (F_X5_canDraw_6 h q0 a1) := by
  refine xI_intro (E := ze_X5_canDraw) hsc rfl (cTb_ok rfl) hh (fun d r h' G HG Pf hR m => ?_)
  have K := kOK_refl (W := []) K
  unfold F_X5_canDraw_6
  show G m _ (0, [(0, .inl (.ref q0)), (1, .inl (.int a1))], [], h, 0, 0)
  refine k_steps HG 4 (zB_iff.mpr (?_ : G m _ (4, [(0, .inl (.ref q0)), (1, .inl (.int a1))], [.inl (.ref q0), .inl (.long (1 : Int64)), .inl (.long (Int32.toInt64 a1))], h, 0, 0)))
  refine k_getI HG rfl K hq_q0 rfl (Nat.le_of_ble_eq_true rfl) rfl (?_ : G m _ (7, [(0, .inl (.ref q0)), (1, .inl (.int a1))], [.inl (.int (hv h q0 9)), .inl (.long (1 : Int64)), .inl (.long (Int32.toInt64 a1))], h, 0, 0))
  refine k_steps HG 1 (zB_iff.mpr (?_ : G m _ (8, [(0, .inl (.ref q0)), (1, .inl (.int a1))], [.inl (.long (Int32.toInt64 (hv h q0 9))), .inl (.long (1 : Int64)), .inl (.long (Int32.toInt64 a1))], h, 0, 0)))
  refine k_cSI HG (E' := ze_X5_in) (Or.inl rfl) hsc rfl rfl rfl rfl (fun hh => x_X5_in hsc hh) (fun y1 => (?_ : G m _ (11, [(0, .inl (.ref q0)), (1, .inl (.int a1))], [.inl (.int y1)], h, 0, 0)))
  refine k_steps HG 1 (kb_eq (x := y1) (y := (0 : Int32)) ?_ ?_)
  · show G m _ (23, [(0, .inl (.ref q0)), (1, .inl (.int a1))], [], h, 0, 0)
    refine k_steps HG 1 (zB_iff.mpr (?_ : G m _ (24, [(0, .inl (.ref q0)), (1, .inl (.int a1))], [.inl (.int (0 : Int32))], h, 0, 0)))
    exact k_retz HG rfl rfl (fun e1 e2 => hR _ e1 e2)
  · show G m _ (14, [(0, .inl (.ref q0)), (1, .inl (.int a1))], [], h, 0, 0)
    refine k_steps HG 1 (zB_iff.mpr (?_ : G m _ (15, [(0, .inl (.ref q0)), (1, .inl (.int a1))], [.inl (.ref q0)], h, 0, 0)))
    refine k_getR HG rfl K hq_q0 rfl (Nat.le_of_ble_eq_true rfl) rfl rfl (fun t2 => (?_ : G m _ (18, [(0, .inl (.ref q0)), (1, .inl (.int a1))], [.inl (.ref (hr h q0 16))], h, 0, 0)))
    refine k_steps HG 1 (zB_iff.mpr (?_ : G m _ (19, [(0, .inl (.ref q0)), (1, .inl (.int a1))], [.inl (.int a1), .inl (.ref (hr h q0 16))], h, 0, 0)))
    refine k_iald HG rfl K t2 rfl (fun _ => rfl) (?_ : G m _ (20, [(0, .inl (.ref q0)), (1, .inl (.int a1))], [.inl (.int (hv h (hr h q0 16) a1.toNatClampNeg))], h, 0, 0))
    refine k_steps HG 1 (kb_eq (x := (hv h (hr h q0 16) a1.toNatClampNeg)) (y := (0 : Int32)) ?_ ?_)
    · show G m _ (25, [(0, .inl (.ref q0)), (1, .inl (.int a1))], [], h, 0, 0)
      refine k_steps HG 2 (zB_iff.mpr (?_ : G m _ (27, [(0, .inl (.ref q0)), (1, .inl (.int a1))], [.inl (.int a1), .inl (.ref q0)], h, 0, 0)))
      refine k_cVI HG (E' := ze_X5_thingOn) (Or.inl ⟨rfl, rfl⟩) hsc rfl rfl rfl rfl rfl (fun hh => x_X5_thingOn_6 hsc K.1 hq_q0 hh) (fun y3 => (?_ : G m _ (30, [(0, .inl (.ref q0)), (1, .inl (.int a1))], [.inl (.int y3)], h, 0, 0)))
      refine k_steps HG 4 (kb_eq (x := y3) (y := (-1 : Int32)) ?_ ?_)
      · show G m _ (62, [(2, .inl (.int y3)), (0, .inl (.ref q0)), (1, .inl (.int a1))], [], h, 0, 0)
        refine k_steps HG 2 (zB_iff.mpr (?_ : G m _ (67, [(2, .inl (.int y3)), (0, .inl (.ref q0)), (1, .inl (.int a1))], [.inl (.int (1 : Int32))], h, 0, 0)))
        exact k_retz HG rfl rfl (fun e1 e2 => hR _ e1 e2)
      · show G m _ (36, [(2, .inl (.int y3)), (0, .inl (.ref q0)), (1, .inl (.int a1))], [], h, 0, 0)
        refine k_steps HG 1 (zB_iff.mpr (?_ : G m _ (37, [(2, .inl (.int y3)), (0, .inl (.ref q0)), (1, .inl (.int a1))], [.inl (.ref q0)], h, 0, 0)))
        refine k_getR HG rfl K hq_q0 rfl (Nat.le_of_ble_eq_true rfl) rfl rfl (fun t4 => (?_ : G m _ (40, [(2, .inl (.int y3)), (0, .inl (.ref q0)), (1, .inl (.int a1))], [.inl (.ref (hr h q0 22))], h, 0, 0)))
        refine k_steps HG 1 (zB_iff.mpr (?_ : G m _ (41, [(2, .inl (.int y3)), (0, .inl (.ref q0)), (1, .inl (.int a1))], [.inl (.int y3), .inl (.ref (hr h q0 22))], h, 0, 0)))
        refine k_iald HG rfl K t4 rfl (fun _ => rfl) (?_ : G m _ (42, [(2, .inl (.int y3)), (0, .inl (.ref q0)), (1, .inl (.int a1))], [.inl (.int (hv h (hr h q0 22) y3.toNatClampNeg))], h, 0, 0))
        refine k_steps HG 2 (kb_ne (x := (hv h (hr h q0 22) y3.toNatClampNeg)) (y := (-1 : Int32)) ?_ ?_)
        · show G m _ (62, [(2, .inl (.int y3)), (0, .inl (.ref q0)), (1, .inl (.int a1))], [], h, 0, 0)
          refine k_steps HG 2 (zB_iff.mpr (?_ : G m _ (67, [(2, .inl (.int y3)), (0, .inl (.ref q0)), (1, .inl (.int a1))], [.inl (.int (1 : Int32))], h, 0, 0)))
          exact k_retz HG rfl rfl (fun e1 e2 => hR _ e1 e2)
        · show G m _ (46, [(2, .inl (.int y3)), (0, .inl (.ref q0)), (1, .inl (.int a1))], [], h, 0, 0)
          refine k_steps HG 3 (zB_iff.mpr (?_ : G m _ (49, [(2, .inl (.int y3)), (0, .inl (.ref q0)), (1, .inl (.int a1))], [.inl (.ref q0), .inl (.int y3), .inl (.ref q0)], h, 0, 0)))
          refine k_getI HG rfl K hq_q0 rfl (Nat.le_of_ble_eq_true rfl) rfl (?_ : G m _ (52, [(2, .inl (.int y3)), (0, .inl (.ref q0)), (1, .inl (.int a1))], [.inl (.int (hv h q0 13)), .inl (.int y3), .inl (.ref q0)], h, 0, 0))
          refine k_steps HG 1 (zB_iff.mpr (?_ : G m _ (53, [(2, .inl (.int y3)), (0, .inl (.ref q0)), (1, .inl (.int a1))], [.inl (.ref q0), .inl (.int (hv h q0 13)), .inl (.int y3), .inl (.ref q0)], h, 0, 0)))
          refine k_cVI HG (E' := ze_X5_inside) (Or.inl ⟨rfl, rfl⟩) hsc rfl rfl rfl rfl rfl (fun hh => x_X5_inside_6 hsc K.1 hq_q0 hh) (fun y5 => (?_ : G m _ (56, [(2, .inl (.int y3)), (0, .inl (.ref q0)), (1, .inl (.int a1))], [.inl (.int y5), .inl (.int (hv h q0 13)), .inl (.int y3), .inl (.ref q0)], h, 0, 0)))
          refine k_cVI HG (E' := ze_X5_isFree) (Or.inl ⟨rfl, rfl⟩) hsc rfl rfl rfl rfl rfl (fun hh => x_X5_isFree_6 hsc K.1 hq_q0 hh) (fun y6 => (?_ : G m _ (59, [(2, .inl (.int y3)), (0, .inl (.ref q0)), (1, .inl (.int a1))], [.inl (.int y6)], h, 0, 0)))
          refine k_steps HG 1 (kb_eq (x := y6) (y := (0 : Int32)) ?_ ?_)
          · show G m _ (66, [(2, .inl (.int y3)), (0, .inl (.ref q0)), (1, .inl (.int a1))], [], h, 0, 0)
            refine k_steps HG 1 (zB_iff.mpr (?_ : G m _ (67, [(2, .inl (.int y3)), (0, .inl (.ref q0)), (1, .inl (.int a1))], [.inl (.int (0 : Int32))], h, 0, 0)))
            exact k_retz HG rfl rfl (fun e1 e2 => hR _ e1 e2)
          · show G m _ (62, [(2, .inl (.int y3)), (0, .inl (.ref q0)), (1, .inl (.int a1))], [], h, 0, 0)
            refine k_steps HG 2 (zB_iff.mpr (?_ : G m _ (67, [(2, .inl (.int y3)), (0, .inl (.ref q0)), (1, .inl (.int a1))], [.inl (.int (1 : Int32))], h, 0, 0)))
            exact k_retz HG rfl rfl (fun e1 e2 => hR _ e1 e2)
    · show G m _ (23, [(0, .inl (.ref q0)), (1, .inl (.int a1))], [], h, 0, 0)
      refine k_steps HG 1 (zB_iff.mpr (?_ : G m _ (24, [(0, .inl (.ref q0)), (1, .inl (.int a1))], [.inl (.int (0 : Int32))], h, 0, 0)))
      exact k_retz HG rfl rfl (fun e1 e2 => hR _ e1 e2)
