def W_X5_copy : List (Nat × Nat) := [(28, 1000), (30, 1000)]
noncomputable def B_X5_copy_225 (c0 : Nat) (c1 : Int32) (c2 : Int32) (c3 : Int32) (c4 : Int32) (c5 : Int32) (s : (Int32 × zH)) : (Int32 × zH) ⊕ ((Int32 × zH) ⊕ (Int32 × zH)) := (if s.1 < c5 then (letf (hput s.2 (hr s.2 (hr s.2 c0 3) c2.toNatClampNeg) (c4 + s.1).toNatClampNeg (.inl (.long (hJ s.2 (hr s.2 c0 4) s.1.toNatClampNeg)))) (fun h2004 => (Sum.inl ((s.1 + (1 : Int32)), h2004)))) else (Sum.inr (Sum.inr (c5, s.2))))
noncomputable def B_X5_copy_191 (c0 : Nat) (c1 : Int32) (c2 : Int32) (c3 : Int32) (c4 : Int32) (c5 : Int32) (s : (Int32 × zH)) : (Int32 × zH) ⊕ (Int32 × zH) := (if s.1 < c5 then (letf (hput s.2 (hr s.2 c0 4) s.1.toNatClampNeg (.inl (.long (hJ s.2 (hr s.2 (hr s.2 c0 3) c1.toNatClampNeg) (c3 + s.1).toNatClampNeg)))) (fun h1009 => (Sum.inl ((s.1 + (1 : Int32)), h1009)))) else (fx (B_X5_copy_225 c0 c1 c2 c3 c4 c5) (Sum.inr (0, [])) ((0 : Int32), s.2)))
noncomputable def J_X5_copy_j24 (h : zH) (c0 : Nat) (c1 : Int32) (c2 : Int32) (c3 : Int32) (c4 : Int32) (c5 : Int32) : Int32 × zH := (letf (F_X5_refuse h c0 (-2 : Int32)) (fun y7401 => (y7401.1, y7401.2)))
theorem w_X5_copy_j24 {scr : List zV} {T0 T : List Nat} {d m : Nat} {r : Option zV} {h' h h0 : zH} {G : Nat → Prop → zS → Prop} {Pf : Int32 × zH → Prop} {c0 : Nat} {c1 : Int32} {c2 : Int32} {c3 : Int32} {c4 : Int32} {c5 : Int32} (HG : G = GL ze_X5_copy scr (zEc ze_X5_copy) (zEs ze_X5_copy) (zD zprog scr d) r h') (hsc : cT scr) (hR : ∀ y hh, some (.inl (.int y)) = r → hh = h' → kOK W_X5_copy T0 T h0 hh → Pf (y, hh)) (K : kOK W_X5_copy T0 T h0 h) (hq_c0 : T[c0]? = some 5) : G m (Pf (J_X5_copy_j24 h c0 c1 c2 c3 c4 c5)) (24, [(0, .inl (.ref c0)), (1, .inl (.int c1)), (2, .inl (.int c2)), (3, .inl (.int c3)), (4, .inl (.int c4)), (5, .inl (.int c5))], [], h, 0, 0) := by
  unfold J_X5_copy_j24
  refine k_steps HG 2 (zB_iff.mpr (?_ : G m _ (27, [(0, .inl (.ref c0)), (1, .inl (.int c1)), (2, .inl (.int c2)), (3, .inl (.int c3)), (4, .inl (.int c4)), (5, .inl (.int c5))], [.inl (.int (-2 : Int32)), .inl (.ref c0)], h, 0, 0)))
  refine k_cVIH HG (E' := ze_X5_refuse) (Or.inl ⟨rfl, rfl⟩) hsc rfl rfl rfl rfl rfl K rfl (fun hh => x_X5_refuse hsc K.1 hq_c0 hh) (fun y7401 K7401 => (?_ : G m _ (30, [(0, .inl (.ref c0)), (1, .inl (.int c1)), (2, .inl (.int c2)), (3, .inl (.int c3)), (4, .inl (.int c4)), (5, .inl (.int c5))], [.inl (.int y7401.1)], y7401.2, 0, 0)))
  exact k_reti HG rfl rfl (fun e1 e2 => hR _ _ e1 e2 K7401)
noncomputable def J_X5_copy_j86 (h : zH) (c0 : Nat) (c1 : Int32) (c2 : Int32) (c3 : Int32) (c4 : Int32) (c5 : Int32) : Int32 × zH := (letf (F_X5_refuse h c0 (-3 : Int32)) (fun y13601 => (y13601.1, y13601.2)))
theorem w_X5_copy_j86 {scr : List zV} {T0 T : List Nat} {d m : Nat} {r : Option zV} {h' h h0 : zH} {G : Nat → Prop → zS → Prop} {Pf : Int32 × zH → Prop} {c0 : Nat} {c1 : Int32} {c2 : Int32} {c3 : Int32} {c4 : Int32} {c5 : Int32} (HG : G = GL ze_X5_copy scr (zEc ze_X5_copy) (zEs ze_X5_copy) (zD zprog scr d) r h') (hsc : cT scr) (hR : ∀ y hh, some (.inl (.int y)) = r → hh = h' → kOK W_X5_copy T0 T h0 hh → Pf (y, hh)) (K : kOK W_X5_copy T0 T h0 h) (hq_c0 : T[c0]? = some 5) : G m (Pf (J_X5_copy_j86 h c0 c1 c2 c3 c4 c5)) (86, [(0, .inl (.ref c0)), (1, .inl (.int c1)), (2, .inl (.int c2)), (3, .inl (.int c3)), (4, .inl (.int c4)), (5, .inl (.int c5))], [], h, 0, 0) := by
  unfold J_X5_copy_j86
  refine k_steps HG 2 (zB_iff.mpr (?_ : G m _ (89, [(0, .inl (.ref c0)), (1, .inl (.int c1)), (2, .inl (.int c2)), (3, .inl (.int c3)), (4, .inl (.int c4)), (5, .inl (.int c5))], [.inl (.int (-3 : Int32)), .inl (.ref c0)], h, 0, 0)))
  refine k_cVIH HG (E' := ze_X5_refuse) (Or.inl ⟨rfl, rfl⟩) hsc rfl rfl rfl rfl rfl K rfl (fun hh => x_X5_refuse hsc K.1 hq_c0 hh) (fun y13601 K13601 => (?_ : G m _ (92, [(0, .inl (.ref c0)), (1, .inl (.int c1)), (2, .inl (.int c2)), (3, .inl (.int c3)), (4, .inl (.int c4)), (5, .inl (.int c5))], [.inl (.int y13601.1)], y13601.2, 0, 0)))
  exact k_reti HG rfl rfl (fun e1 e2 => hR _ _ e1 e2 K13601)
noncomputable def J_X5_copy_j111 (h : zH) (c0 : Nat) (c1 : Int32) (c2 : Int32) (c3 : Int32) (c4 : Int32) (c5 : Int32) : Int32 × zH := (letf (F_X5_refuse h c0 (-4 : Int32)) (fun y16101 => (y16101.1, y16101.2)))
theorem w_X5_copy_j111 {scr : List zV} {T0 T : List Nat} {d m : Nat} {r : Option zV} {h' h h0 : zH} {G : Nat → Prop → zS → Prop} {Pf : Int32 × zH → Prop} {c0 : Nat} {c1 : Int32} {c2 : Int32} {c3 : Int32} {c4 : Int32} {c5 : Int32} (HG : G = GL ze_X5_copy scr (zEc ze_X5_copy) (zEs ze_X5_copy) (zD zprog scr d) r h') (hsc : cT scr) (hR : ∀ y hh, some (.inl (.int y)) = r → hh = h' → kOK W_X5_copy T0 T h0 hh → Pf (y, hh)) (K : kOK W_X5_copy T0 T h0 h) (hq_c0 : T[c0]? = some 5) : G m (Pf (J_X5_copy_j111 h c0 c1 c2 c3 c4 c5)) (111, [(0, .inl (.ref c0)), (1, .inl (.int c1)), (2, .inl (.int c2)), (3, .inl (.int c3)), (4, .inl (.int c4)), (5, .inl (.int c5))], [], h, 0, 0) := by
  unfold J_X5_copy_j111
  refine k_steps HG 2 (zB_iff.mpr (?_ : G m _ (114, [(0, .inl (.ref c0)), (1, .inl (.int c1)), (2, .inl (.int c2)), (3, .inl (.int c3)), (4, .inl (.int c4)), (5, .inl (.int c5))], [.inl (.int (-4 : Int32)), .inl (.ref c0)], h, 0, 0)))
  refine k_cVIH HG (E' := ze_X5_refuse) (Or.inl ⟨rfl, rfl⟩) hsc rfl rfl rfl rfl rfl K rfl (fun hh => x_X5_refuse hsc K.1 hq_c0 hh) (fun y16101 K16101 => (?_ : G m _ (117, [(0, .inl (.ref c0)), (1, .inl (.int c1)), (2, .inl (.int c2)), (3, .inl (.int c3)), (4, .inl (.int c4)), (5, .inl (.int c5))], [.inl (.int y16101.1)], y16101.2, 0, 0)))
  exact k_reti HG rfl rfl (fun e1 e2 => hR _ _ e1 e2 K16101)
noncomputable def J_X5_copy_j181 (h : zH) (c0 : Nat) (c1 : Int32) (c2 : Int32) (c3 : Int32) (c4 : Int32) (c5 : Int32) : Int32 × zH := (letf (F_X5_refuse h c0 (-2 : Int32)) (fun y23101 => (y23101.1, y23101.2)))
theorem w_X5_copy_j181 {scr : List zV} {T0 T : List Nat} {d m : Nat} {r : Option zV} {h' h h0 : zH} {G : Nat → Prop → zS → Prop} {Pf : Int32 × zH → Prop} {c0 : Nat} {c1 : Int32} {c2 : Int32} {c3 : Int32} {c4 : Int32} {c5 : Int32} (HG : G = GL ze_X5_copy scr (zEc ze_X5_copy) (zEs ze_X5_copy) (zD zprog scr d) r h') (hsc : cT scr) (hR : ∀ y hh, some (.inl (.int y)) = r → hh = h' → kOK W_X5_copy T0 T h0 hh → Pf (y, hh)) (K : kOK W_X5_copy T0 T h0 h) (hq_c0 : T[c0]? = some 5) : G m (Pf (J_X5_copy_j181 h c0 c1 c2 c3 c4 c5)) (181, [(0, .inl (.ref c0)), (1, .inl (.int c1)), (2, .inl (.int c2)), (3, .inl (.int c3)), (4, .inl (.int c4)), (5, .inl (.int c5))], [], h, 0, 0) := by
  unfold J_X5_copy_j181
  refine k_steps HG 2 (zB_iff.mpr (?_ : G m _ (184, [(0, .inl (.ref c0)), (1, .inl (.int c1)), (2, .inl (.int c2)), (3, .inl (.int c3)), (4, .inl (.int c4)), (5, .inl (.int c5))], [.inl (.int (-2 : Int32)), .inl (.ref c0)], h, 0, 0)))
  refine k_cVIH HG (E' := ze_X5_refuse) (Or.inl ⟨rfl, rfl⟩) hsc rfl rfl rfl rfl rfl K rfl (fun hh => x_X5_refuse hsc K.1 hq_c0 hh) (fun y23101 K23101 => (?_ : G m _ (187, [(0, .inl (.ref c0)), (1, .inl (.int c1)), (2, .inl (.int c2)), (3, .inl (.int c3)), (4, .inl (.int c4)), (5, .inl (.int c5))], [.inl (.int y23101.1)], y23101.2, 0, 0)))
  exact k_reti HG rfl rfl (fun e1 e2 => hR _ _ e1 e2 K23101)
noncomputable def J_X5_copy_j93 (h : zH) (c0 : Nat) (c1 : Int32) (c2 : Int32) (c3 : Int32) (c4 : Int32) (c5 : Int32) : Int32 × zH := (if (hv h (hr h c0 0) c1.toNatClampNeg) = (0 : Int32) then (J_X5_copy_j111 h c0 c1 c2 c3 c4 c5) else (if (hv h (hr h c0 0) c2.toNatClampNeg) = (0 : Int32) then (J_X5_copy_j111 h c0 c1 c2 c3 c4 c5) else (if c5 < (0 : Int32) then (J_X5_copy_j181 h c0 c1 c2 c3 c4 c5) else (if c3 < (0 : Int32) then (J_X5_copy_j181 h c0 c1 c2 c3 c4 c5) else (if c4 < (0 : Int32) then (J_X5_copy_j181 h c0 c1 c2 c3 c4 c5) else (if (hv h (hr h c0 2) c1.toNatClampNeg) < c5 then (J_X5_copy_j181 h c0 c1 c2 c3 c4 c5) else (if (hv h (hr h c0 2) c2.toNatClampNeg) < c5 then (J_X5_copy_j181 h c0 c1 c2 c3 c4 c5) else (if ((hv h (hr h c0 2) c1.toNatClampNeg) - c5) < c3 then (J_X5_copy_j181 h c0 c1 c2 c3 c4 c5) else (if ((hv h (hr h c0 2) c2.toNatClampNeg) - c5) < c4 then (J_X5_copy_j181 h c0 c1 c2 c3 c4 c5) else (fx (B_X5_copy_191 c0 c1 c2 c3 c4 c5) (0, []) ((0 : Int32), h)))))))))))
theorem w_X5_copy_j93 {scr : List zV} {T0 T : List Nat} {d m : Nat} {r : Option zV} {h' h h0 : zH} {G : Nat → Prop → zS → Prop} {Pf : Int32 × zH → Prop} {c0 : Nat} {c1 : Int32} {c2 : Int32} {c3 : Int32} {c4 : Int32} {c5 : Int32} (HG : G = GL ze_X5_copy scr (zEc ze_X5_copy) (zEs ze_X5_copy) (zD zprog scr d) r h') (hsc : cT scr) (hR : ∀ y hh, some (.inl (.int y)) = r → hh = h' → kOK W_X5_copy T0 T h0 hh → Pf (y, hh)) (K : kOK W_X5_copy T0 T h0 h) (hq_c0 : T[c0]? = some 5) : G m (Pf (J_X5_copy_j93 h c0 c1 c2 c3 c4 c5)) (93, [(0, .inl (.ref c0)), (1, .inl (.int c1)), (2, .inl (.int c2)), (3, .inl (.int c3)), (4, .inl (.int c4)), (5, .inl (.int c5))], [], h, 0, 0) := by
  unfold J_X5_copy_j93
  refine k_steps HG 1 (zB_iff.mpr (?_ : G m _ (94, [(0, .inl (.ref c0)), (1, .inl (.int c1)), (2, .inl (.int c2)), (3, .inl (.int c3)), (4, .inl (.int c4)), (5, .inl (.int c5))], [.inl (.ref c0)], h, 0, 0)))
  refine k_getR HG rfl K hq_c0 rfl (Nat.le_of_ble_eq_true rfl) rfl rfl (fun t14301 => (?_ : G m _ (97, [(0, .inl (.ref c0)), (1, .inl (.int c1)), (2, .inl (.int c2)), (3, .inl (.int c3)), (4, .inl (.int c4)), (5, .inl (.int c5))], [.inl (.ref (hr h c0 0))], h, 0, 0)))
  refine k_steps HG 1 (zB_iff.mpr (?_ : G m _ (98, [(0, .inl (.ref c0)), (1, .inl (.int c1)), (2, .inl (.int c2)), (3, .inl (.int c3)), (4, .inl (.int c4)), (5, .inl (.int c5))], [.inl (.int c1), .inl (.ref (hr h c0 0))], h, 0, 0)))
  refine k_iald HG rfl K t14301 rfl (fun _ => rfl) (?_ : G m _ (99, [(0, .inl (.ref c0)), (1, .inl (.int c1)), (2, .inl (.int c2)), (3, .inl (.int c3)), (4, .inl (.int c4)), (5, .inl (.int c5))], [.inl (.int (hv h (hr h c0 0) c1.toNatClampNeg))], h, 0, 0))
  refine k_steps HG 1 (kb_eq (x := (hv h (hr h c0 0) c1.toNatClampNeg)) (y := (0 : Int32)) ?_ ?_)
  · show G m _ (111, [(0, .inl (.ref c0)), (1, .inl (.int c1)), (2, .inl (.int c2)), (3, .inl (.int c3)), (4, .inl (.int c4)), (5, .inl (.int c5))], [], h, 0, 0)
    exact w_X5_copy_j111 HG hsc hR K hq_c0
  · show G m _ (102, [(0, .inl (.ref c0)), (1, .inl (.int c1)), (2, .inl (.int c2)), (3, .inl (.int c3)), (4, .inl (.int c4)), (5, .inl (.int c5))], [], h, 0, 0)
    refine k_steps HG 1 (zB_iff.mpr (?_ : G m _ (103, [(0, .inl (.ref c0)), (1, .inl (.int c1)), (2, .inl (.int c2)), (3, .inl (.int c3)), (4, .inl (.int c4)), (5, .inl (.int c5))], [.inl (.ref c0)], h, 0, 0)))
    refine k_getR HG rfl K hq_c0 rfl (Nat.le_of_ble_eq_true rfl) rfl rfl (fun t14302 => (?_ : G m _ (106, [(0, .inl (.ref c0)), (1, .inl (.int c1)), (2, .inl (.int c2)), (3, .inl (.int c3)), (4, .inl (.int c4)), (5, .inl (.int c5))], [.inl (.ref (hr h c0 0))], h, 0, 0)))
    refine k_steps HG 1 (zB_iff.mpr (?_ : G m _ (107, [(0, .inl (.ref c0)), (1, .inl (.int c1)), (2, .inl (.int c2)), (3, .inl (.int c3)), (4, .inl (.int c4)), (5, .inl (.int c5))], [.inl (.int c2), .inl (.ref (hr h c0 0))], h, 0, 0)))
    refine k_iald HG rfl K t14302 rfl (fun _ => rfl) (?_ : G m _ (108, [(0, .inl (.ref c0)), (1, .inl (.int c1)), (2, .inl (.int c2)), (3, .inl (.int c3)), (4, .inl (.int c4)), (5, .inl (.int c5))], [.inl (.int (hv h (hr h c0 0) c2.toNatClampNeg))], h, 0, 0))
    refine k_steps HG 1 (kb_ne (x := (hv h (hr h c0 0) c2.toNatClampNeg)) (y := (0 : Int32)) ?_ ?_)
    · show G m _ (118, [(0, .inl (.ref c0)), (1, .inl (.int c1)), (2, .inl (.int c2)), (3, .inl (.int c3)), (4, .inl (.int c4)), (5, .inl (.int c5))], [], h, 0, 0)
      refine k_steps HG 2 (kb_lt (x := c5) (y := (0 : Int32)) ?_ ?_)
      · show G m _ (181, [(0, .inl (.ref c0)), (1, .inl (.int c1)), (2, .inl (.int c2)), (3, .inl (.int c3)), (4, .inl (.int c4)), (5, .inl (.int c5))], [], h, 0, 0)
        exact w_X5_copy_j181 HG hsc hR K hq_c0
      · show G m _ (123, [(0, .inl (.ref c0)), (1, .inl (.int c1)), (2, .inl (.int c2)), (3, .inl (.int c3)), (4, .inl (.int c4)), (5, .inl (.int c5))], [], h, 0, 0)
        refine k_steps HG 2 (kb_lt (x := c3) (y := (0 : Int32)) ?_ ?_)
        · show G m _ (181, [(0, .inl (.ref c0)), (1, .inl (.int c1)), (2, .inl (.int c2)), (3, .inl (.int c3)), (4, .inl (.int c4)), (5, .inl (.int c5))], [], h, 0, 0)
          exact w_X5_copy_j181 HG hsc hR K hq_c0
        · show G m _ (127, [(0, .inl (.ref c0)), (1, .inl (.int c1)), (2, .inl (.int c2)), (3, .inl (.int c3)), (4, .inl (.int c4)), (5, .inl (.int c5))], [], h, 0, 0)
          refine k_steps HG 2 (kb_lt (x := c4) (y := (0 : Int32)) ?_ ?_)
          · show G m _ (181, [(0, .inl (.ref c0)), (1, .inl (.int c1)), (2, .inl (.int c2)), (3, .inl (.int c3)), (4, .inl (.int c4)), (5, .inl (.int c5))], [], h, 0, 0)
            exact w_X5_copy_j181 HG hsc hR K hq_c0
          · show G m _ (132, [(0, .inl (.ref c0)), (1, .inl (.int c1)), (2, .inl (.int c2)), (3, .inl (.int c3)), (4, .inl (.int c4)), (5, .inl (.int c5))], [], h, 0, 0)
            refine k_steps HG 2 (zB_iff.mpr (?_ : G m _ (135, [(0, .inl (.ref c0)), (1, .inl (.int c1)), (2, .inl (.int c2)), (3, .inl (.int c3)), (4, .inl (.int c4)), (5, .inl (.int c5))], [.inl (.ref c0), .inl (.int c5)], h, 0, 0)))
            refine k_getR HG rfl K hq_c0 rfl (Nat.le_of_ble_eq_true rfl) rfl rfl (fun t14303 => (?_ : G m _ (138, [(0, .inl (.ref c0)), (1, .inl (.int c1)), (2, .inl (.int c2)), (3, .inl (.int c3)), (4, .inl (.int c4)), (5, .inl (.int c5))], [.inl (.ref (hr h c0 2)), .inl (.int c5)], h, 0, 0)))
            refine k_steps HG 1 (zB_iff.mpr (?_ : G m _ (139, [(0, .inl (.ref c0)), (1, .inl (.int c1)), (2, .inl (.int c2)), (3, .inl (.int c3)), (4, .inl (.int c4)), (5, .inl (.int c5))], [.inl (.int c1), .inl (.ref (hr h c0 2)), .inl (.int c5)], h, 0, 0)))
            refine k_iald HG rfl K t14303 rfl (fun _ => rfl) (?_ : G m _ (140, [(0, .inl (.ref c0)), (1, .inl (.int c1)), (2, .inl (.int c2)), (3, .inl (.int c3)), (4, .inl (.int c4)), (5, .inl (.int c5))], [.inl (.int (hv h (hr h c0 2) c1.toNatClampNeg)), .inl (.int c5)], h, 0, 0))
            refine k_steps HG 1 (kb_gt (x := c5) (y := (hv h (hr h c0 2) c1.toNatClampNeg)) ?_ ?_)
            · show G m _ (181, [(0, .inl (.ref c0)), (1, .inl (.int c1)), (2, .inl (.int c2)), (3, .inl (.int c3)), (4, .inl (.int c4)), (5, .inl (.int c5))], [], h, 0, 0)
              exact w_X5_copy_j181 HG hsc hR K hq_c0
            · show G m _ (143, [(0, .inl (.ref c0)), (1, .inl (.int c1)), (2, .inl (.int c2)), (3, .inl (.int c3)), (4, .inl (.int c4)), (5, .inl (.int c5))], [], h, 0, 0)
              refine k_steps HG 2 (zB_iff.mpr (?_ : G m _ (146, [(0, .inl (.ref c0)), (1, .inl (.int c1)), (2, .inl (.int c2)), (3, .inl (.int c3)), (4, .inl (.int c4)), (5, .inl (.int c5))], [.inl (.ref c0), .inl (.int c5)], h, 0, 0)))
              refine k_getR HG rfl K hq_c0 rfl (Nat.le_of_ble_eq_true rfl) rfl rfl (fun t14304 => (?_ : G m _ (149, [(0, .inl (.ref c0)), (1, .inl (.int c1)), (2, .inl (.int c2)), (3, .inl (.int c3)), (4, .inl (.int c4)), (5, .inl (.int c5))], [.inl (.ref (hr h c0 2)), .inl (.int c5)], h, 0, 0)))
              refine k_steps HG 1 (zB_iff.mpr (?_ : G m _ (150, [(0, .inl (.ref c0)), (1, .inl (.int c1)), (2, .inl (.int c2)), (3, .inl (.int c3)), (4, .inl (.int c4)), (5, .inl (.int c5))], [.inl (.int c2), .inl (.ref (hr h c0 2)), .inl (.int c5)], h, 0, 0)))
              refine k_iald HG rfl K t14304 rfl (fun _ => rfl) (?_ : G m _ (151, [(0, .inl (.ref c0)), (1, .inl (.int c1)), (2, .inl (.int c2)), (3, .inl (.int c3)), (4, .inl (.int c4)), (5, .inl (.int c5))], [.inl (.int (hv h (hr h c0 2) c2.toNatClampNeg)), .inl (.int c5)], h, 0, 0))
              refine k_steps HG 1 (kb_gt (x := c5) (y := (hv h (hr h c0 2) c2.toNatClampNeg)) ?_ ?_)
              · show G m _ (181, [(0, .inl (.ref c0)), (1, .inl (.int c1)), (2, .inl (.int c2)), (3, .inl (.int c3)), (4, .inl (.int c4)), (5, .inl (.int c5))], [], h, 0, 0)
                exact w_X5_copy_j181 HG hsc hR K hq_c0
              · show G m _ (154, [(0, .inl (.ref c0)), (1, .inl (.int c1)), (2, .inl (.int c2)), (3, .inl (.int c3)), (4, .inl (.int c4)), (5, .inl (.int c5))], [], h, 0, 0)
                refine k_steps HG 2 (zB_iff.mpr (?_ : G m _ (156, [(0, .inl (.ref c0)), (1, .inl (.int c1)), (2, .inl (.int c2)), (3, .inl (.int c3)), (4, .inl (.int c4)), (5, .inl (.int c5))], [.inl (.ref c0), .inl (.int c3)], h, 0, 0)))
                refine k_getR HG rfl K hq_c0 rfl (Nat.le_of_ble_eq_true rfl) rfl rfl (fun t14305 => (?_ : G m _ (159, [(0, .inl (.ref c0)), (1, .inl (.int c1)), (2, .inl (.int c2)), (3, .inl (.int c3)), (4, .inl (.int c4)), (5, .inl (.int c5))], [.inl (.ref (hr h c0 2)), .inl (.int c3)], h, 0, 0)))
                refine k_steps HG 1 (zB_iff.mpr (?_ : G m _ (160, [(0, .inl (.ref c0)), (1, .inl (.int c1)), (2, .inl (.int c2)), (3, .inl (.int c3)), (4, .inl (.int c4)), (5, .inl (.int c5))], [.inl (.int c1), .inl (.ref (hr h c0 2)), .inl (.int c3)], h, 0, 0)))
                refine k_iald HG rfl K t14305 rfl (fun _ => rfl) (?_ : G m _ (161, [(0, .inl (.ref c0)), (1, .inl (.int c1)), (2, .inl (.int c2)), (3, .inl (.int c3)), (4, .inl (.int c4)), (5, .inl (.int c5))], [.inl (.int (hv h (hr h c0 2) c1.toNatClampNeg)), .inl (.int c3)], h, 0, 0))
                refine k_steps HG 3 (kb_gt (x := c3) (y := ((hv h (hr h c0 2) c1.toNatClampNeg) - c5)) ?_ ?_)
                · show G m _ (181, [(0, .inl (.ref c0)), (1, .inl (.int c1)), (2, .inl (.int c2)), (3, .inl (.int c3)), (4, .inl (.int c4)), (5, .inl (.int c5))], [], h, 0, 0)
                  exact w_X5_copy_j181 HG hsc hR K hq_c0
                · show G m _ (167, [(0, .inl (.ref c0)), (1, .inl (.int c1)), (2, .inl (.int c2)), (3, .inl (.int c3)), (4, .inl (.int c4)), (5, .inl (.int c5))], [], h, 0, 0)
                  refine k_steps HG 2 (zB_iff.mpr (?_ : G m _ (170, [(0, .inl (.ref c0)), (1, .inl (.int c1)), (2, .inl (.int c2)), (3, .inl (.int c3)), (4, .inl (.int c4)), (5, .inl (.int c5))], [.inl (.ref c0), .inl (.int c4)], h, 0, 0)))
                  refine k_getR HG rfl K hq_c0 rfl (Nat.le_of_ble_eq_true rfl) rfl rfl (fun t14306 => (?_ : G m _ (173, [(0, .inl (.ref c0)), (1, .inl (.int c1)), (2, .inl (.int c2)), (3, .inl (.int c3)), (4, .inl (.int c4)), (5, .inl (.int c5))], [.inl (.ref (hr h c0 2)), .inl (.int c4)], h, 0, 0)))
                  refine k_steps HG 1 (zB_iff.mpr (?_ : G m _ (174, [(0, .inl (.ref c0)), (1, .inl (.int c1)), (2, .inl (.int c2)), (3, .inl (.int c3)), (4, .inl (.int c4)), (5, .inl (.int c5))], [.inl (.int c2), .inl (.ref (hr h c0 2)), .inl (.int c4)], h, 0, 0)))
                  refine k_iald HG rfl K t14306 rfl (fun _ => rfl) (?_ : G m _ (175, [(0, .inl (.ref c0)), (1, .inl (.int c1)), (2, .inl (.int c2)), (3, .inl (.int c3)), (4, .inl (.int c4)), (5, .inl (.int c5))], [.inl (.int (hv h (hr h c0 2) c2.toNatClampNeg)), .inl (.int c4)], h, 0, 0))
                  refine k_steps HG 3 (kb_le (x := c4) (y := ((hv h (hr h c0 2) c2.toNatClampNeg) - c5)) ?_ ?_)
                  · show G m _ (188, [(0, .inl (.ref c0)), (1, .inl (.int c1)), (2, .inl (.int c2)), (3, .inl (.int c3)), (4, .inl (.int c4)), (5, .inl (.int c5))], [], h, 0, 0)
                    refine k_steps HG 2 (zB_iff.mpr (?_ : G m _ (191, [(6, .inl (.int (0 : Int32))), (0, .inl (.ref c0)), (1, .inl (.int c1)), (2, .inl (.int c2)), (3, .inl (.int c3)), (4, .inl (.int c4)), (5, .inl (.int c5))], [], h, 0, 0)))
                    have lp14307 : ∀ m14307, m14307 ≤ m → ∀ (v14307_6 : Int32) (h14307 : zH), kOK W_X5_copy T0 T h0 h14307 → G m14307 (Pf (fx (B_X5_copy_191 c0 c1 c2 c3 c4 c5) (0, []) (v14307_6, h14307))) (191, [(0, .inl (.ref c0)), (1, .inl (.int c1)), (2, .inl (.int c2)), (3, .inl (.int c3)), (4, .inl (.int c4)), (5, .inl (.int c5)), (6, .inl (.int v14307_6))], [], h14307, 0, 0) := by
                      intro m14307
                      induction m14307 with
                      | zero =>
                        intros
                        exact k_zero HG
                      | succ m14307 ih14307 =>
                        intro le14307 v14307_6 h14307 K14307
                        have le14307 := Nat.le_of_succ_le le14307
                        have ih14307 := ih14307 le14307
                        refine k_fx ?_
                        rw [B_X5_copy_191]
                        refine k_first HG 2 (kb_ge (x := v14307_6) (y := c5) ?_ ?_)
                        · show G m14307 _ (222, [(0, .inl (.ref c0)), (1, .inl (.int c1)), (2, .inl (.int c2)), (3, .inl (.int c3)), (4, .inl (.int c4)), (5, .inl (.int c5)), (6, .inl (.int v14307_6))], [], h14307, 0, 0)
                          refine k_steps HG 2 (zB_iff.mpr (?_ : G m14307 _ (225, [(6, .inl (.int (0 : Int32))), (0, .inl (.ref c0)), (1, .inl (.int c1)), (2, .inl (.int c2)), (3, .inl (.int c3)), (4, .inl (.int c4)), (5, .inl (.int c5))], [], h14307, 0, 0)))
                          have lp14308 : ∀ m14308, m14308 ≤ m14307 → ∀ (v14308_6 : Int32) (h14308 : zH), kOK W_X5_copy T0 T h0 h14308 → G m14308 ((fxP Pf (B_X5_copy_191 c0 c1 c2 c3 c4 c5) (0, [])) (fx (B_X5_copy_225 c0 c1 c2 c3 c4 c5) (Sum.inr (0, [])) (v14308_6, h14308))) (225, [(0, .inl (.ref c0)), (1, .inl (.int c1)), (2, .inl (.int c2)), (3, .inl (.int c3)), (4, .inl (.int c4)), (5, .inl (.int c5)), (6, .inl (.int v14308_6))], [], h14308, 0, 0) := by
                            intro m14308
                            induction m14308 with
                            | zero =>
                              intros
                              exact k_zero HG
                            | succ m14308 ih14308 =>
                              intro le14308 v14308_6 h14308 K14308
                              have le14308 := Nat.le_of_succ_le le14308
                              have ih14308 := ih14308 le14308
                              refine k_fx ?_
                              rw [B_X5_copy_225]
                              refine k_first HG 2 (kb_ge (x := v14308_6) (y := c5) ?_ ?_)
                              · show G m14308 _ (257, [(0, .inl (.ref c0)), (1, .inl (.int c1)), (2, .inl (.int c2)), (3, .inl (.int c3)), (4, .inl (.int c4)), (5, .inl (.int c5)), (6, .inl (.int v14308_6))], [], h14308, 0, 0)
                                refine k_steps HG 1 (zB_iff.mpr (?_ : G m14308 _ (259, [(0, .inl (.ref c0)), (1, .inl (.int c1)), (2, .inl (.int c2)), (3, .inl (.int c3)), (4, .inl (.int c4)), (5, .inl (.int c5)), (6, .inl (.int v14308_6))], [.inl (.int c5)], h14308, 0, 0)))
                                exact k_reti HG rfl rfl (fun e1 e2 => hR _ _ e1 e2 K14308)
                              · show G m14308 _ (232, [(0, .inl (.ref c0)), (1, .inl (.int c1)), (2, .inl (.int c2)), (3, .inl (.int c3)), (4, .inl (.int c4)), (5, .inl (.int c5)), (6, .inl (.int v14308_6))], [], h14308, 0, 0)
                                refine k_steps HG 1 (zB_iff.mpr (?_ : G m14308 _ (233, [(0, .inl (.ref c0)), (1, .inl (.int c1)), (2, .inl (.int c2)), (3, .inl (.int c3)), (4, .inl (.int c4)), (5, .inl (.int c5)), (6, .inl (.int v14308_6))], [.inl (.ref c0)], h14308, 0, 0)))
                                refine k_getR HG rfl K14308 hq_c0 rfl (Nat.le_of_ble_eq_true rfl) rfl rfl (fun t14309 => (?_ : G m14308 _ (236, [(0, .inl (.ref c0)), (1, .inl (.int c1)), (2, .inl (.int c2)), (3, .inl (.int c3)), (4, .inl (.int c4)), (5, .inl (.int c5)), (6, .inl (.int v14308_6))], [.inl (.ref (hr h14308 c0 3))], h14308, 0, 0)))
                                refine k_steps HG 1 (zB_iff.mpr (?_ : G m14308 _ (237, [(0, .inl (.ref c0)), (1, .inl (.int c1)), (2, .inl (.int c2)), (3, .inl (.int c3)), (4, .inl (.int c4)), (5, .inl (.int c5)), (6, .inl (.int v14308_6))], [.inl (.int c2), .inl (.ref (hr h14308 c0 3))], h14308, 0, 0)))
                                refine k_aald HG rfl K14308 t14309 (fun _ => ⟨rfl, rfl⟩) (fun t14310 => (?_ : G m14308 _ (238, [(0, .inl (.ref c0)), (1, .inl (.int c1)), (2, .inl (.int c2)), (3, .inl (.int c3)), (4, .inl (.int c4)), (5, .inl (.int c5)), (6, .inl (.int v14308_6))], [.inl (.ref (hr h14308 (hr h14308 c0 3) c2.toNatClampNeg))], h14308, 0, 0)))
                                refine k_steps HG 4 (zB_iff.mpr (?_ : G m14308 _ (244, [(0, .inl (.ref c0)), (1, .inl (.int c1)), (2, .inl (.int c2)), (3, .inl (.int c3)), (4, .inl (.int c4)), (5, .inl (.int c5)), (6, .inl (.int v14308_6))], [.inl (.ref c0), .inl (.int (c4 + v14308_6)), .inl (.ref (hr h14308 (hr h14308 c0 3) c2.toNatClampNeg))], h14308, 0, 0)))
                                refine k_getR HG rfl K14308 hq_c0 rfl (Nat.le_of_ble_eq_true rfl) rfl rfl (fun t14311 => (?_ : G m14308 _ (247, [(0, .inl (.ref c0)), (1, .inl (.int c1)), (2, .inl (.int c2)), (3, .inl (.int c3)), (4, .inl (.int c4)), (5, .inl (.int c5)), (6, .inl (.int v14308_6))], [.inl (.ref (hr h14308 c0 4)), .inl (.int (c4 + v14308_6)), .inl (.ref (hr h14308 (hr h14308 c0 3) c2.toNatClampNeg))], h14308, 0, 0)))
                                refine k_steps HG 1 (zB_iff.mpr (?_ : G m14308 _ (249, [(0, .inl (.ref c0)), (1, .inl (.int c1)), (2, .inl (.int c2)), (3, .inl (.int c3)), (4, .inl (.int c4)), (5, .inl (.int c5)), (6, .inl (.int v14308_6))], [.inl (.int v14308_6), .inl (.ref (hr h14308 c0 4)), .inl (.int (c4 + v14308_6)), .inl (.ref (hr h14308 (hr h14308 c0 3) c2.toNatClampNeg))], h14308, 0, 0)))
                                refine k_lald HG rfl K14308 t14311 rfl (fun _ => rfl) (?_ : G m14308 _ (250, [(0, .inl (.ref c0)), (1, .inl (.int c1)), (2, .inl (.int c2)), (3, .inl (.int c3)), (4, .inl (.int c4)), (5, .inl (.int c5)), (6, .inl (.int v14308_6))], [.inl (.long (hJ h14308 (hr h14308 c0 4) v14308_6.toNatClampNeg)), .inl (.int (c4 + v14308_6)), .inl (.ref (hr h14308 (hr h14308 c0 3) c2.toNatClampNeg))], h14308, 0, 0))
                                refine k_last HG rfl K14308 t14310 rfl (fun _ => rfl) rfl (fun h14312 K14312 => (?_ : G m14308 _ (251, [(0, .inl (.ref c0)), (1, .inl (.int c1)), (2, .inl (.int c2)), (3, .inl (.int c3)), (4, .inl (.int c4)), (5, .inl (.int c5)), (6, .inl (.int v14308_6))], [], h14312, 0, 0)))
                                refine k_steps HG 2 (zB_iff.mpr (?_ : G m14308 _ (225, [(6, .inl (.int (v14308_6 + (1 : Int32)))), (0, .inl (.ref c0)), (1, .inl (.int c1)), (2, .inl (.int c2)), (3, .inl (.int c3)), (4, .inl (.int c4)), (5, .inl (.int c5))], [], h14312, 0, 0)))
                                refine k_ext HG (L' := [(0, .inl (.ref c0)), (1, .inl (.int c1)), (2, .inl (.int c2)), (3, .inl (.int c3)), (4, .inl (.int c4)), (5, .inl (.int c5)), (6, .inl (.int (v14308_6 + (1 : Int32))))]) rfl rfl ⟨rfl, rfl, rfl, rfl, rfl, rfl, rfl, trivial⟩ ?_
                                exact ih14308 _ _ K14312
                          refine k_ext HG (L' := [(0, .inl (.ref c0)), (1, .inl (.int c1)), (2, .inl (.int c2)), (3, .inl (.int c3)), (4, .inl (.int c4)), (5, .inl (.int c5)), (6, .inl (.int (0 : Int32)))]) rfl rfl ⟨rfl, rfl, rfl, rfl, rfl, rfl, rfl, trivial⟩ ?_
                          exact lp14308 m14307 (Nat.le_refl _) _ _ K14307
                        · show G m14307 _ (198, [(0, .inl (.ref c0)), (1, .inl (.int c1)), (2, .inl (.int c2)), (3, .inl (.int c3)), (4, .inl (.int c4)), (5, .inl (.int c5)), (6, .inl (.int v14307_6))], [], h14307, 0, 0)
                          refine k_steps HG 1 (zB_iff.mpr (?_ : G m14307 _ (199, [(0, .inl (.ref c0)), (1, .inl (.int c1)), (2, .inl (.int c2)), (3, .inl (.int c3)), (4, .inl (.int c4)), (5, .inl (.int c5)), (6, .inl (.int v14307_6))], [.inl (.ref c0)], h14307, 0, 0)))
                          refine k_getR HG rfl K14307 hq_c0 rfl (Nat.le_of_ble_eq_true rfl) rfl rfl (fun t14313 => (?_ : G m14307 _ (202, [(0, .inl (.ref c0)), (1, .inl (.int c1)), (2, .inl (.int c2)), (3, .inl (.int c3)), (4, .inl (.int c4)), (5, .inl (.int c5)), (6, .inl (.int v14307_6))], [.inl (.ref (hr h14307 c0 4))], h14307, 0, 0)))
                          refine k_steps HG 2 (zB_iff.mpr (?_ : G m14307 _ (205, [(0, .inl (.ref c0)), (1, .inl (.int c1)), (2, .inl (.int c2)), (3, .inl (.int c3)), (4, .inl (.int c4)), (5, .inl (.int c5)), (6, .inl (.int v14307_6))], [.inl (.ref c0), .inl (.int v14307_6), .inl (.ref (hr h14307 c0 4))], h14307, 0, 0)))
                          refine k_getR HG rfl K14307 hq_c0 rfl (Nat.le_of_ble_eq_true rfl) rfl rfl (fun t14314 => (?_ : G m14307 _ (208, [(0, .inl (.ref c0)), (1, .inl (.int c1)), (2, .inl (.int c2)), (3, .inl (.int c3)), (4, .inl (.int c4)), (5, .inl (.int c5)), (6, .inl (.int v14307_6))], [.inl (.ref (hr h14307 c0 3)), .inl (.int v14307_6), .inl (.ref (hr h14307 c0 4))], h14307, 0, 0)))
                          refine k_steps HG 1 (zB_iff.mpr (?_ : G m14307 _ (209, [(0, .inl (.ref c0)), (1, .inl (.int c1)), (2, .inl (.int c2)), (3, .inl (.int c3)), (4, .inl (.int c4)), (5, .inl (.int c5)), (6, .inl (.int v14307_6))], [.inl (.int c1), .inl (.ref (hr h14307 c0 3)), .inl (.int v14307_6), .inl (.ref (hr h14307 c0 4))], h14307, 0, 0)))
                          refine k_aald HG rfl K14307 t14314 (fun _ => ⟨rfl, rfl⟩) (fun t14315 => (?_ : G m14307 _ (210, [(0, .inl (.ref c0)), (1, .inl (.int c1)), (2, .inl (.int c2)), (3, .inl (.int c3)), (4, .inl (.int c4)), (5, .inl (.int c5)), (6, .inl (.int v14307_6))], [.inl (.ref (hr h14307 (hr h14307 c0 3) c1.toNatClampNeg)), .inl (.int v14307_6), .inl (.ref (hr h14307 c0 4))], h14307, 0, 0)))
                          refine k_steps HG 3 (zB_iff.mpr (?_ : G m14307 _ (214, [(0, .inl (.ref c0)), (1, .inl (.int c1)), (2, .inl (.int c2)), (3, .inl (.int c3)), (4, .inl (.int c4)), (5, .inl (.int c5)), (6, .inl (.int v14307_6))], [.inl (.int (c3 + v14307_6)), .inl (.ref (hr h14307 (hr h14307 c0 3) c1.toNatClampNeg)), .inl (.int v14307_6), .inl (.ref (hr h14307 c0 4))], h14307, 0, 0)))
                          refine k_lald HG rfl K14307 t14315 rfl (fun _ => rfl) (?_ : G m14307 _ (215, [(0, .inl (.ref c0)), (1, .inl (.int c1)), (2, .inl (.int c2)), (3, .inl (.int c3)), (4, .inl (.int c4)), (5, .inl (.int c5)), (6, .inl (.int v14307_6))], [.inl (.long (hJ h14307 (hr h14307 (hr h14307 c0 3) c1.toNatClampNeg) (c3 + v14307_6).toNatClampNeg)), .inl (.int v14307_6), .inl (.ref (hr h14307 c0 4))], h14307, 0, 0))
                          refine k_last HG rfl K14307 t14313 rfl (fun _ => rfl) rfl (fun h14316 K14316 => (?_ : G m14307 _ (216, [(0, .inl (.ref c0)), (1, .inl (.int c1)), (2, .inl (.int c2)), (3, .inl (.int c3)), (4, .inl (.int c4)), (5, .inl (.int c5)), (6, .inl (.int v14307_6))], [], h14316, 0, 0)))
                          refine k_steps HG 2 (zB_iff.mpr (?_ : G m14307 _ (191, [(6, .inl (.int (v14307_6 + (1 : Int32)))), (0, .inl (.ref c0)), (1, .inl (.int c1)), (2, .inl (.int c2)), (3, .inl (.int c3)), (4, .inl (.int c4)), (5, .inl (.int c5))], [], h14316, 0, 0)))
                          refine k_ext HG (L' := [(0, .inl (.ref c0)), (1, .inl (.int c1)), (2, .inl (.int c2)), (3, .inl (.int c3)), (4, .inl (.int c4)), (5, .inl (.int c5)), (6, .inl (.int (v14307_6 + (1 : Int32))))]) rfl rfl ⟨rfl, rfl, rfl, rfl, rfl, rfl, rfl, trivial⟩ ?_
                          exact ih14307 _ _ K14316
                    refine k_ext HG (L' := [(0, .inl (.ref c0)), (1, .inl (.int c1)), (2, .inl (.int c2)), (3, .inl (.int c3)), (4, .inl (.int c4)), (5, .inl (.int c5)), (6, .inl (.int (0 : Int32)))]) rfl rfl ⟨rfl, rfl, rfl, rfl, rfl, rfl, rfl, trivial⟩ ?_
                    exact lp14307 m (Nat.le_refl _) _ _ K
                  · show G m _ (181, [(0, .inl (.ref c0)), (1, .inl (.int c1)), (2, .inl (.int c2)), (3, .inl (.int c3)), (4, .inl (.int c4)), (5, .inl (.int c5))], [], h, 0, 0)
                    exact w_X5_copy_j181 HG hsc hR K hq_c0
    · show G m _ (111, [(0, .inl (.ref c0)), (1, .inl (.int c1)), (2, .inl (.int c2)), (3, .inl (.int c3)), (4, .inl (.int c4)), (5, .inl (.int c5))], [], h, 0, 0)
      exact w_X5_copy_j111 HG hsc hR K hq_c0
noncomputable def F_X5_copy (h : zH) (q0 : Nat) (a1 : Int32) (a2 : Int32) (a3 : Int32) (a4 : Int32) (a5 : Int32) : Int32 × zH := (letf (F_X5_in (Int32.toInt64 a1) (0 : Int64) (7 : Int64)) (fun y1 => (if y1 = (0 : Int32) then (J_X5_copy_j24 h q0 a1 a2 a3 a4 a5) else (letf (F_X5_in (Int32.toInt64 a2) (0 : Int64) (7 : Int64)) (fun y2 => (if y2 = (0 : Int32) then (J_X5_copy_j24 h q0 a1 a2 a3 a4 a5) else (if (hv h (hr h q0 0) a1.toNatClampNeg) = (2 : Int32) then (J_X5_copy_j86 h q0 a1 a2 a3 a4 a5) else (if (hv h (hr h q0 0) a2.toNatClampNeg) = (2 : Int32) then (J_X5_copy_j86 h q0 a1 a2 a3 a4 a5) else (if (hv h (hr h q0 0) a1.toNatClampNeg) = (1 : Int32) then (if (hv h (hr h q0 0) a2.toNatClampNeg) = (1 : Int32) then (if (hv h (hr h q0 1) a1.toNatClampNeg) = (hv h (hr h q0 1) a2.toNatClampNeg) then (J_X5_copy_j93 h q0 a1 a2 a3 a4 a5) else (J_X5_copy_j86 h q0 a1 a2 a3 a4 a5)) else (J_X5_copy_j93 h q0 a1 a2 a3 a4 a5)) else (J_X5_copy_j93 h q0 a1 a2 a3 a4 a5))))))))))
theorem x_X5_copy {scr : List zV} {T : List Nat} {h : zH} {q0 : Nat} {a1 : Int32} {a2 : Int32} {a3 : Int32} {a4 : Int32} {a5 : Int32} (hsc : cT scr) (K : hOK kty T h) (hq_q0 : T[q0]? = some 5) (hh : cH h) : xIH scr W_X5_copy T T 170 [.inl (.ref q0), .inl (.int a1), .inl (.int a2), .inl (.int a3), .inl (.int a4), .inl (.int a5)] h (F_X5_copy h q0 a1 a2 a3 a4 a5) := by
  refine xIH_intro (E := ze_X5_copy) hsc rfl (cTb_ok rfl) hh (fun d r h' G HG Pf hR m => ?_)
  have K := kOK_refl (W := W_X5_copy) K
  unfold F_X5_copy
  show G m _ (0, [(0, .inl (.ref q0)), (1, .inl (.int a1)), (2, .inl (.int a2)), (3, .inl (.int a3)), (4, .inl (.int a4)), (5, .inl (.int a5))], [], h, 0, 0)
  refine k_steps HG 4 (zB_iff.mpr (?_ : G m _ (6, [(0, .inl (.ref q0)), (1, .inl (.int a1)), (2, .inl (.int a2)), (3, .inl (.int a3)), (4, .inl (.int a4)), (5, .inl (.int a5))], [.inl (.long (7 : Int64)), .inl (.long (0 : Int64)), .inl (.long (Int32.toInt64 a1))], h, 0, 0)))
  refine k_cSI HG (E' := ze_X5_in) (Or.inl rfl) hsc rfl rfl rfl rfl (fun hh => x_X5_in hsc hh) (fun y1 => (?_ : G m _ (9, [(0, .inl (.ref q0)), (1, .inl (.int a1)), (2, .inl (.int a2)), (3, .inl (.int a3)), (4, .inl (.int a4)), (5, .inl (.int a5))], [.inl (.int y1)], h, 0, 0)))
  refine k_steps HG 1 (kb_eq (x := y1) (y := (0 : Int32)) ?_ ?_)
  · show G m _ (24, [(0, .inl (.ref q0)), (1, .inl (.int a1)), (2, .inl (.int a2)), (3, .inl (.int a3)), (4, .inl (.int a4)), (5, .inl (.int a5))], [], h, 0, 0)
    exact w_X5_copy_j24 HG hsc hR K hq_q0
  · show G m _ (12, [(0, .inl (.ref q0)), (1, .inl (.int a1)), (2, .inl (.int a2)), (3, .inl (.int a3)), (4, .inl (.int a4)), (5, .inl (.int a5))], [], h, 0, 0)
    refine k_steps HG 4 (zB_iff.mpr (?_ : G m _ (18, [(0, .inl (.ref q0)), (1, .inl (.int a1)), (2, .inl (.int a2)), (3, .inl (.int a3)), (4, .inl (.int a4)), (5, .inl (.int a5))], [.inl (.long (7 : Int64)), .inl (.long (0 : Int64)), .inl (.long (Int32.toInt64 a2))], h, 0, 0)))
    refine k_cSI HG (E' := ze_X5_in) (Or.inl rfl) hsc rfl rfl rfl rfl (fun hh => x_X5_in hsc hh) (fun y2 => (?_ : G m _ (21, [(0, .inl (.ref q0)), (1, .inl (.int a1)), (2, .inl (.int a2)), (3, .inl (.int a3)), (4, .inl (.int a4)), (5, .inl (.int a5))], [.inl (.int y2)], h, 0, 0)))
    refine k_steps HG 1 (kb_ne (x := y2) (y := (0 : Int32)) ?_ ?_)
    · show G m _ (31, [(0, .inl (.ref q0)), (1, .inl (.int a1)), (2, .inl (.int a2)), (3, .inl (.int a3)), (4, .inl (.int a4)), (5, .inl (.int a5))], [], h, 0, 0)
      refine k_steps HG 1 (zB_iff.mpr (?_ : G m _ (32, [(0, .inl (.ref q0)), (1, .inl (.int a1)), (2, .inl (.int a2)), (3, .inl (.int a3)), (4, .inl (.int a4)), (5, .inl (.int a5))], [.inl (.ref q0)], h, 0, 0)))
      refine k_getR HG rfl K hq_q0 rfl (Nat.le_of_ble_eq_true rfl) rfl rfl (fun t3 => (?_ : G m _ (35, [(0, .inl (.ref q0)), (1, .inl (.int a1)), (2, .inl (.int a2)), (3, .inl (.int a3)), (4, .inl (.int a4)), (5, .inl (.int a5))], [.inl (.ref (hr h q0 0))], h, 0, 0)))
      refine k_steps HG 1 (zB_iff.mpr (?_ : G m _ (36, [(0, .inl (.ref q0)), (1, .inl (.int a1)), (2, .inl (.int a2)), (3, .inl (.int a3)), (4, .inl (.int a4)), (5, .inl (.int a5))], [.inl (.int a1), .inl (.ref (hr h q0 0))], h, 0, 0)))
      refine k_iald HG rfl K t3 rfl (fun _ => rfl) (?_ : G m _ (37, [(0, .inl (.ref q0)), (1, .inl (.int a1)), (2, .inl (.int a2)), (3, .inl (.int a3)), (4, .inl (.int a4)), (5, .inl (.int a5))], [.inl (.int (hv h (hr h q0 0) a1.toNatClampNeg))], h, 0, 0))
      refine k_steps HG 2 (kb_eq (x := (hv h (hr h q0 0) a1.toNatClampNeg)) (y := (2 : Int32)) ?_ ?_)
      · show G m _ (86, [(0, .inl (.ref q0)), (1, .inl (.int a1)), (2, .inl (.int a2)), (3, .inl (.int a3)), (4, .inl (.int a4)), (5, .inl (.int a5))], [], h, 0, 0)
        exact w_X5_copy_j86 HG hsc hR K hq_q0
      · show G m _ (41, [(0, .inl (.ref q0)), (1, .inl (.int a1)), (2, .inl (.int a2)), (3, .inl (.int a3)), (4, .inl (.int a4)), (5, .inl (.int a5))], [], h, 0, 0)
        refine k_steps HG 1 (zB_iff.mpr (?_ : G m _ (42, [(0, .inl (.ref q0)), (1, .inl (.int a1)), (2, .inl (.int a2)), (3, .inl (.int a3)), (4, .inl (.int a4)), (5, .inl (.int a5))], [.inl (.ref q0)], h, 0, 0)))
        refine k_getR HG rfl K hq_q0 rfl (Nat.le_of_ble_eq_true rfl) rfl rfl (fun t4 => (?_ : G m _ (45, [(0, .inl (.ref q0)), (1, .inl (.int a1)), (2, .inl (.int a2)), (3, .inl (.int a3)), (4, .inl (.int a4)), (5, .inl (.int a5))], [.inl (.ref (hr h q0 0))], h, 0, 0)))
        refine k_steps HG 1 (zB_iff.mpr (?_ : G m _ (46, [(0, .inl (.ref q0)), (1, .inl (.int a1)), (2, .inl (.int a2)), (3, .inl (.int a3)), (4, .inl (.int a4)), (5, .inl (.int a5))], [.inl (.int a2), .inl (.ref (hr h q0 0))], h, 0, 0)))
        refine k_iald HG rfl K t4 rfl (fun _ => rfl) (?_ : G m _ (47, [(0, .inl (.ref q0)), (1, .inl (.int a1)), (2, .inl (.int a2)), (3, .inl (.int a3)), (4, .inl (.int a4)), (5, .inl (.int a5))], [.inl (.int (hv h (hr h q0 0) a2.toNatClampNeg))], h, 0, 0))
        refine k_steps HG 2 (kb_eq (x := (hv h (hr h q0 0) a2.toNatClampNeg)) (y := (2 : Int32)) ?_ ?_)
        · show G m _ (86, [(0, .inl (.ref q0)), (1, .inl (.int a1)), (2, .inl (.int a2)), (3, .inl (.int a3)), (4, .inl (.int a4)), (5, .inl (.int a5))], [], h, 0, 0)
          exact w_X5_copy_j86 HG hsc hR K hq_q0
        · show G m _ (51, [(0, .inl (.ref q0)), (1, .inl (.int a1)), (2, .inl (.int a2)), (3, .inl (.int a3)), (4, .inl (.int a4)), (5, .inl (.int a5))], [], h, 0, 0)
          refine k_steps HG 1 (zB_iff.mpr (?_ : G m _ (52, [(0, .inl (.ref q0)), (1, .inl (.int a1)), (2, .inl (.int a2)), (3, .inl (.int a3)), (4, .inl (.int a4)), (5, .inl (.int a5))], [.inl (.ref q0)], h, 0, 0)))
          refine k_getR HG rfl K hq_q0 rfl (Nat.le_of_ble_eq_true rfl) rfl rfl (fun t5 => (?_ : G m _ (55, [(0, .inl (.ref q0)), (1, .inl (.int a1)), (2, .inl (.int a2)), (3, .inl (.int a3)), (4, .inl (.int a4)), (5, .inl (.int a5))], [.inl (.ref (hr h q0 0))], h, 0, 0)))
          refine k_steps HG 1 (zB_iff.mpr (?_ : G m _ (56, [(0, .inl (.ref q0)), (1, .inl (.int a1)), (2, .inl (.int a2)), (3, .inl (.int a3)), (4, .inl (.int a4)), (5, .inl (.int a5))], [.inl (.int a1), .inl (.ref (hr h q0 0))], h, 0, 0)))
          refine k_iald HG rfl K t5 rfl (fun _ => rfl) (?_ : G m _ (57, [(0, .inl (.ref q0)), (1, .inl (.int a1)), (2, .inl (.int a2)), (3, .inl (.int a3)), (4, .inl (.int a4)), (5, .inl (.int a5))], [.inl (.int (hv h (hr h q0 0) a1.toNatClampNeg))], h, 0, 0))
          refine k_steps HG 2 (kb_ne (x := (hv h (hr h q0 0) a1.toNatClampNeg)) (y := (1 : Int32)) ?_ ?_)
          · show G m _ (93, [(0, .inl (.ref q0)), (1, .inl (.int a1)), (2, .inl (.int a2)), (3, .inl (.int a3)), (4, .inl (.int a4)), (5, .inl (.int a5))], [], h, 0, 0)
            exact w_X5_copy_j93 HG hsc hR K hq_q0
          · show G m _ (61, [(0, .inl (.ref q0)), (1, .inl (.int a1)), (2, .inl (.int a2)), (3, .inl (.int a3)), (4, .inl (.int a4)), (5, .inl (.int a5))], [], h, 0, 0)
            refine k_steps HG 1 (zB_iff.mpr (?_ : G m _ (62, [(0, .inl (.ref q0)), (1, .inl (.int a1)), (2, .inl (.int a2)), (3, .inl (.int a3)), (4, .inl (.int a4)), (5, .inl (.int a5))], [.inl (.ref q0)], h, 0, 0)))
            refine k_getR HG rfl K hq_q0 rfl (Nat.le_of_ble_eq_true rfl) rfl rfl (fun t6 => (?_ : G m _ (65, [(0, .inl (.ref q0)), (1, .inl (.int a1)), (2, .inl (.int a2)), (3, .inl (.int a3)), (4, .inl (.int a4)), (5, .inl (.int a5))], [.inl (.ref (hr h q0 0))], h, 0, 0)))
            refine k_steps HG 1 (zB_iff.mpr (?_ : G m _ (66, [(0, .inl (.ref q0)), (1, .inl (.int a1)), (2, .inl (.int a2)), (3, .inl (.int a3)), (4, .inl (.int a4)), (5, .inl (.int a5))], [.inl (.int a2), .inl (.ref (hr h q0 0))], h, 0, 0)))
            refine k_iald HG rfl K t6 rfl (fun _ => rfl) (?_ : G m _ (67, [(0, .inl (.ref q0)), (1, .inl (.int a1)), (2, .inl (.int a2)), (3, .inl (.int a3)), (4, .inl (.int a4)), (5, .inl (.int a5))], [.inl (.int (hv h (hr h q0 0) a2.toNatClampNeg))], h, 0, 0))
            refine k_steps HG 2 (kb_ne (x := (hv h (hr h q0 0) a2.toNatClampNeg)) (y := (1 : Int32)) ?_ ?_)
            · show G m _ (93, [(0, .inl (.ref q0)), (1, .inl (.int a1)), (2, .inl (.int a2)), (3, .inl (.int a3)), (4, .inl (.int a4)), (5, .inl (.int a5))], [], h, 0, 0)
              exact w_X5_copy_j93 HG hsc hR K hq_q0
            · show G m _ (71, [(0, .inl (.ref q0)), (1, .inl (.int a1)), (2, .inl (.int a2)), (3, .inl (.int a3)), (4, .inl (.int a4)), (5, .inl (.int a5))], [], h, 0, 0)
              refine k_steps HG 1 (zB_iff.mpr (?_ : G m _ (72, [(0, .inl (.ref q0)), (1, .inl (.int a1)), (2, .inl (.int a2)), (3, .inl (.int a3)), (4, .inl (.int a4)), (5, .inl (.int a5))], [.inl (.ref q0)], h, 0, 0)))
              refine k_getR HG rfl K hq_q0 rfl (Nat.le_of_ble_eq_true rfl) rfl rfl (fun t7 => (?_ : G m _ (75, [(0, .inl (.ref q0)), (1, .inl (.int a1)), (2, .inl (.int a2)), (3, .inl (.int a3)), (4, .inl (.int a4)), (5, .inl (.int a5))], [.inl (.ref (hr h q0 1))], h, 0, 0)))
              refine k_steps HG 1 (zB_iff.mpr (?_ : G m _ (76, [(0, .inl (.ref q0)), (1, .inl (.int a1)), (2, .inl (.int a2)), (3, .inl (.int a3)), (4, .inl (.int a4)), (5, .inl (.int a5))], [.inl (.int a1), .inl (.ref (hr h q0 1))], h, 0, 0)))
              refine k_iald HG rfl K t7 rfl (fun _ => rfl) (?_ : G m _ (77, [(0, .inl (.ref q0)), (1, .inl (.int a1)), (2, .inl (.int a2)), (3, .inl (.int a3)), (4, .inl (.int a4)), (5, .inl (.int a5))], [.inl (.int (hv h (hr h q0 1) a1.toNatClampNeg))], h, 0, 0))
              refine k_steps HG 1 (zB_iff.mpr (?_ : G m _ (78, [(0, .inl (.ref q0)), (1, .inl (.int a1)), (2, .inl (.int a2)), (3, .inl (.int a3)), (4, .inl (.int a4)), (5, .inl (.int a5))], [.inl (.ref q0), .inl (.int (hv h (hr h q0 1) a1.toNatClampNeg))], h, 0, 0)))
              refine k_getR HG rfl K hq_q0 rfl (Nat.le_of_ble_eq_true rfl) rfl rfl (fun t8 => (?_ : G m _ (81, [(0, .inl (.ref q0)), (1, .inl (.int a1)), (2, .inl (.int a2)), (3, .inl (.int a3)), (4, .inl (.int a4)), (5, .inl (.int a5))], [.inl (.ref (hr h q0 1)), .inl (.int (hv h (hr h q0 1) a1.toNatClampNeg))], h, 0, 0)))
              refine k_steps HG 1 (zB_iff.mpr (?_ : G m _ (82, [(0, .inl (.ref q0)), (1, .inl (.int a1)), (2, .inl (.int a2)), (3, .inl (.int a3)), (4, .inl (.int a4)), (5, .inl (.int a5))], [.inl (.int a2), .inl (.ref (hr h q0 1)), .inl (.int (hv h (hr h q0 1) a1.toNatClampNeg))], h, 0, 0)))
              refine k_iald HG rfl K t8 rfl (fun _ => rfl) (?_ : G m _ (83, [(0, .inl (.ref q0)), (1, .inl (.int a1)), (2, .inl (.int a2)), (3, .inl (.int a3)), (4, .inl (.int a4)), (5, .inl (.int a5))], [.inl (.int (hv h (hr h q0 1) a2.toNatClampNeg)), .inl (.int (hv h (hr h q0 1) a1.toNatClampNeg))], h, 0, 0))
              refine k_steps HG 1 (kb_eq (x := (hv h (hr h q0 1) a1.toNatClampNeg)) (y := (hv h (hr h q0 1) a2.toNatClampNeg)) ?_ ?_)
              · show G m _ (93, [(0, .inl (.ref q0)), (1, .inl (.int a1)), (2, .inl (.int a2)), (3, .inl (.int a3)), (4, .inl (.int a4)), (5, .inl (.int a5))], [], h, 0, 0)
                exact w_X5_copy_j93 HG hsc hR K hq_q0
              · show G m _ (86, [(0, .inl (.ref q0)), (1, .inl (.int a1)), (2, .inl (.int a2)), (3, .inl (.int a3)), (4, .inl (.int a4)), (5, .inl (.int a5))], [], h, 0, 0)
                exact w_X5_copy_j86 HG hsc hR K hq_q0
    · show G m _ (24, [(0, .inl (.ref q0)), (1, .inl (.int a1)), (2, .inl (.int a2)), (3, .inl (.int a3)), (4, .inl (.int a4)), (5, .inl (.int a5))], [], h, 0, 0)
      exact w_X5_copy_j24 HG hsc hR K hq_q0
noncomputable def F_X5_element (h : zH) (q0 : Nat) (a1 : Int32) (a2 : Int32) : Int64 := (letf (F_X5_in (Int32.toInt64 a1) (0 : Int64) (7 : Int64)) (fun y1 => (if y1 = (0 : Int32) then (0 : Int64) else (if (hv h (hr h q0 0) a1.toNatClampNeg) = (1 : Int32) then (letf (F_X5_in (Int32.toInt64 a2) (0 : Int64) (Int32.toInt64 ((hv h (hr h q0 2) a1.toNatClampNeg) - (1 : Int32)))) (fun y4 => (if y4 = (0 : Int32) then (0 : Int64) else (hJ h (hr h (hr h q0 3) a1.toNatClampNeg) a2.toNatClampNeg)))) else (0 : Int64)))))
theorem x_X5_element {scr : List zV} {T : List Nat} {h : zH} {q0 : Nat} {a1 : Int32} {a2 : Int32} (hsc : cT scr) (K : hOK kty T h) (hq_q0 : T[q0]? = some 5) (hh : cH h) : xJ scr 175 [.inl (.ref q0), .inl (.int a1), .inl (.int a2)] h (F_X5_element h q0 a1 a2) := by
  refine xJ_intro (E := ze_X5_element) hsc rfl (cTb_ok rfl) hh (fun d r h' G HG Pf hR m => ?_)
  have K := kOK_refl (W := []) K
  unfold F_X5_element
  show G m _ (0, [(0, .inl (.ref q0)), (1, .inl (.int a1)), (2, .inl (.int a2))], [], h, 0, 0)
  refine k_steps HG 4 (zB_iff.mpr (?_ : G m _ (6, [(0, .inl (.ref q0)), (1, .inl (.int a1)), (2, .inl (.int a2))], [.inl (.long (7 : Int64)), .inl (.long (0 : Int64)), .inl (.long (Int32.toInt64 a1))], h, 0, 0)))
  refine k_cSI HG (E' := ze_X5_in) (Or.inl rfl) hsc rfl rfl rfl rfl (fun hh => x_X5_in hsc hh) (fun y1 => (?_ : G m _ (9, [(0, .inl (.ref q0)), (1, .inl (.int a1)), (2, .inl (.int a2))], [.inl (.int y1)], h, 0, 0)))
  refine k_steps HG 1 (kb_eq (x := y1) (y := (0 : Int32)) ?_ ?_)
  · show G m _ (51, [(0, .inl (.ref q0)), (1, .inl (.int a1)), (2, .inl (.int a2))], [], h, 0, 0)
    refine k_steps HG 1 (zB_iff.mpr (?_ : G m _ (52, [(0, .inl (.ref q0)), (1, .inl (.int a1)), (2, .inl (.int a2))], [.inl (.long (0 : Int64))], h, 0, 0)))
    exact k_retl HG rfl rfl (fun e1 e2 => hR _ e1 e2)
  · show G m _ (12, [(0, .inl (.ref q0)), (1, .inl (.int a1)), (2, .inl (.int a2))], [], h, 0, 0)
    refine k_steps HG 1 (zB_iff.mpr (?_ : G m _ (13, [(0, .inl (.ref q0)), (1, .inl (.int a1)), (2, .inl (.int a2))], [.inl (.ref q0)], h, 0, 0)))
    refine k_getR HG rfl K hq_q0 rfl (Nat.le_of_ble_eq_true rfl) rfl rfl (fun t2 => (?_ : G m _ (16, [(0, .inl (.ref q0)), (1, .inl (.int a1)), (2, .inl (.int a2))], [.inl (.ref (hr h q0 0))], h, 0, 0)))
    refine k_steps HG 1 (zB_iff.mpr (?_ : G m _ (17, [(0, .inl (.ref q0)), (1, .inl (.int a1)), (2, .inl (.int a2))], [.inl (.int a1), .inl (.ref (hr h q0 0))], h, 0, 0)))
    refine k_iald HG rfl K t2 rfl (fun _ => rfl) (?_ : G m _ (18, [(0, .inl (.ref q0)), (1, .inl (.int a1)), (2, .inl (.int a2))], [.inl (.int (hv h (hr h q0 0) a1.toNatClampNeg))], h, 0, 0))
    refine k_steps HG 2 (kb_ne (x := (hv h (hr h q0 0) a1.toNatClampNeg)) (y := (1 : Int32)) ?_ ?_)
    · show G m _ (51, [(0, .inl (.ref q0)), (1, .inl (.int a1)), (2, .inl (.int a2))], [], h, 0, 0)
      refine k_steps HG 1 (zB_iff.mpr (?_ : G m _ (52, [(0, .inl (.ref q0)), (1, .inl (.int a1)), (2, .inl (.int a2))], [.inl (.long (0 : Int64))], h, 0, 0)))
      exact k_retl HG rfl rfl (fun e1 e2 => hR _ e1 e2)
    · show G m _ (22, [(0, .inl (.ref q0)), (1, .inl (.int a1)), (2, .inl (.int a2))], [], h, 0, 0)
      refine k_steps HG 4 (zB_iff.mpr (?_ : G m _ (26, [(0, .inl (.ref q0)), (1, .inl (.int a1)), (2, .inl (.int a2))], [.inl (.ref q0), .inl (.long (0 : Int64)), .inl (.long (Int32.toInt64 a2))], h, 0, 0)))
      refine k_getR HG rfl K hq_q0 rfl (Nat.le_of_ble_eq_true rfl) rfl rfl (fun t3 => (?_ : G m _ (29, [(0, .inl (.ref q0)), (1, .inl (.int a1)), (2, .inl (.int a2))], [.inl (.ref (hr h q0 2)), .inl (.long (0 : Int64)), .inl (.long (Int32.toInt64 a2))], h, 0, 0)))
      refine k_steps HG 1 (zB_iff.mpr (?_ : G m _ (30, [(0, .inl (.ref q0)), (1, .inl (.int a1)), (2, .inl (.int a2))], [.inl (.int a1), .inl (.ref (hr h q0 2)), .inl (.long (0 : Int64)), .inl (.long (Int32.toInt64 a2))], h, 0, 0)))
      refine k_iald HG rfl K t3 rfl (fun _ => rfl) (?_ : G m _ (31, [(0, .inl (.ref q0)), (1, .inl (.int a1)), (2, .inl (.int a2))], [.inl (.int (hv h (hr h q0 2) a1.toNatClampNeg)), .inl (.long (0 : Int64)), .inl (.long (Int32.toInt64 a2))], h, 0, 0))
      refine k_steps HG 3 (zB_iff.mpr (?_ : G m _ (34, [(0, .inl (.ref q0)), (1, .inl (.int a1)), (2, .inl (.int a2))], [.inl (.long (Int32.toInt64 ((hv h (hr h q0 2) a1.toNatClampNeg) - (1 : Int32)))), .inl (.long (0 : Int64)), .inl (.long (Int32.toInt64 a2))], h, 0, 0)))
      refine k_cSI HG (E' := ze_X5_in) (Or.inl rfl) hsc rfl rfl rfl rfl (fun hh => x_X5_in hsc hh) (fun y4 => (?_ : G m _ (37, [(0, .inl (.ref q0)), (1, .inl (.int a1)), (2, .inl (.int a2))], [.inl (.int y4)], h, 0, 0)))
      refine k_steps HG 1 (kb_eq (x := y4) (y := (0 : Int32)) ?_ ?_)
      · show G m _ (51, [(0, .inl (.ref q0)), (1, .inl (.int a1)), (2, .inl (.int a2))], [], h, 0, 0)
        refine k_steps HG 1 (zB_iff.mpr (?_ : G m _ (52, [(0, .inl (.ref q0)), (1, .inl (.int a1)), (2, .inl (.int a2))], [.inl (.long (0 : Int64))], h, 0, 0)))
        exact k_retl HG rfl rfl (fun e1 e2 => hR _ e1 e2)
      · show G m _ (40, [(0, .inl (.ref q0)), (1, .inl (.int a1)), (2, .inl (.int a2))], [], h, 0, 0)
        refine k_steps HG 1 (zB_iff.mpr (?_ : G m _ (41, [(0, .inl (.ref q0)), (1, .inl (.int a1)), (2, .inl (.int a2))], [.inl (.ref q0)], h, 0, 0)))
        refine k_getR HG rfl K hq_q0 rfl (Nat.le_of_ble_eq_true rfl) rfl rfl (fun t5 => (?_ : G m _ (44, [(0, .inl (.ref q0)), (1, .inl (.int a1)), (2, .inl (.int a2))], [.inl (.ref (hr h q0 3))], h, 0, 0)))
        refine k_steps HG 1 (zB_iff.mpr (?_ : G m _ (45, [(0, .inl (.ref q0)), (1, .inl (.int a1)), (2, .inl (.int a2))], [.inl (.int a1), .inl (.ref (hr h q0 3))], h, 0, 0)))
        refine k_aald HG rfl K t5 (fun _ => ⟨rfl, rfl⟩) (fun t6 => (?_ : G m _ (46, [(0, .inl (.ref q0)), (1, .inl (.int a1)), (2, .inl (.int a2))], [.inl (.ref (hr h (hr h q0 3) a1.toNatClampNeg))], h, 0, 0)))
        refine k_steps HG 1 (zB_iff.mpr (?_ : G m _ (47, [(0, .inl (.ref q0)), (1, .inl (.int a1)), (2, .inl (.int a2))], [.inl (.int a2), .inl (.ref (hr h (hr h q0 3) a1.toNatClampNeg))], h, 0, 0)))
        refine k_lald HG rfl K t6 rfl (fun _ => rfl) (?_ : G m _ (48, [(0, .inl (.ref q0)), (1, .inl (.int a1)), (2, .inl (.int a2))], [.inl (.long (hJ h (hr h (hr h q0 3) a1.toNatClampNeg) a2.toNatClampNeg))], h, 0, 0))
        refine k_steps HG 1 (zB_iff.mpr (?_ : G m _ (52, [(0, .inl (.ref q0)), (1, .inl (.int a1)), (2, .inl (.int a2))], [.inl (.long (hJ h (hr h (hr h q0 3) a1.toNatClampNeg) a2.toNatClampNeg))], h, 0, 0)))
        exact k_retl HG rfl rfl (fun e1 e2 => hR _ e1 e2)
noncomputable def B_X5_envy_14 (h : zH) (c0 : Nat) (c2 : Int32) (s : (Int32 × Int32)) : (Int32 × Int32) ⊕ ((Int32 × Int32) ⊕ (Int32)) := (if s.2 < (hv h c0 23) then (if c2 = s.2 then (Sum.inl ((s.1 + (0 : Int32)), (s.2 + (1 : Int32)))) else (letf (F_X5_owned h c0 s.2) (fun y2001 => (letf (F_X5_liked h c0 c2 y2001) (fun y2002 => (letf (F_X5_owned h c0 c2) (fun y2003 => (letf (F_X5_liked h c0 c2 y2003) (fun y2004 => (if y2004 < y2002 then (Sum.inl ((s.1 + (1 : Int32)), (s.2 + (1 : Int32)))) else (Sum.inl ((s.1 + (0 : Int32)), (s.2 + (1 : Int32)))))))))))))) else (Sum.inr (Sum.inl (s.1, (c2 + (1 : Int32))))))
noncomputable def B_X5_envy_4 (h : zH) (c0 : Nat) (s : (Int32 × Int32)) : (Int32 × Int32) ⊕ (Int32) := (if s.2 < (hv h c0 23) then (fx (B_X5_envy_14 h c0 s.2) (Sum.inr 0) (s.1, (0 : Int32))) else (Sum.inr s.1))
noncomputable def F_X5_envy (h : zH) (q0 : Nat) : Int32 := (fx (B_X5_envy_4 h q0) 0 ((0 : Int32), (0 : Int32)))
theorem x_X5_envy {scr : List zV} {T : List Nat} {h : zH} {q0 : Nat} (hsc : cT scr) (K : hOK kty T h) (hq_q0 : T[q0]? = some 5) (hh : cH h) : xI scr 176 [.inl (.ref q0)] h (F_X5_envy h q0) := by
  refine xI_intro (E := ze_X5_envy) hsc rfl (cTb_ok rfl) hh (fun d r h' G HG Pf hR m => ?_)
  have K := kOK_refl (W := []) K
  unfold F_X5_envy
  show G m _ (0, [(0, .inl (.ref q0))], [], h, 0, 0)
  refine k_steps HG 4 (zB_iff.mpr (?_ : G m _ (4, [(2, .inl (.int (0 : Int32))), (1, .inl (.int (0 : Int32))), (0, .inl (.ref q0))], [], h, 0, 0)))
  have lp1 : ∀ m1, m1 ≤ m → ∀ (d1_3 : Int32) (v1_1 : Int32) (v1_2 : Int32), G m1 (Pf (fx (B_X5_envy_4 h q0) 0 (v1_1, v1_2))) (4, [(0, .inl (.ref q0)), (1, .inl (.int v1_1)), (2, .inl (.int v1_2)), (3, .inl (.int d1_3))], [], h, 0, 0) := by
    intro m1
    induction m1 with
    | zero =>
      intros
      exact k_zero HG
    | succ m1 ih1 =>
      intro le1 d1_3 v1_1 v1_2
      have le1 := Nat.le_of_succ_le le1
      have ih1 := ih1 le1
      refine k_fx ?_
      rw [B_X5_envy_4]
      refine k_first HG 1 (zB_iff.mpr (?_ : G m1 _ (6, [(0, .inl (.ref q0)), (1, .inl (.int v1_1)), (2, .inl (.int v1_2)), (3, .inl (.int d1_3))], [.inl (.ref q0), .inl (.int v1_2)], h, 0, 0)))
      refine k_getI HG rfl K hq_q0 rfl (Nat.le_of_ble_eq_true rfl) rfl (?_ : G m1 _ (9, [(0, .inl (.ref q0)), (1, .inl (.int v1_1)), (2, .inl (.int v1_2)), (3, .inl (.int d1_3))], [.inl (.int (hv h q0 23)), .inl (.int v1_2)], h, 0, 0))
      refine k_steps HG 1 (kb_ge (x := v1_2) (y := (hv h q0 23)) ?_ ?_)
      · show G m1 _ (70, [(0, .inl (.ref q0)), (1, .inl (.int v1_1)), (2, .inl (.int v1_2)), (3, .inl (.int d1_3))], [], h, 0, 0)
        refine k_steps HG 1 (zB_iff.mpr (?_ : G m1 _ (71, [(0, .inl (.ref q0)), (1, .inl (.int v1_1)), (2, .inl (.int v1_2)), (3, .inl (.int d1_3))], [.inl (.int v1_1)], h, 0, 0)))
        exact k_reti HG rfl rfl (fun e1 e2 => hR _ e1 e2)
      · show G m1 _ (12, [(0, .inl (.ref q0)), (1, .inl (.int v1_1)), (2, .inl (.int v1_2)), (3, .inl (.int d1_3))], [], h, 0, 0)
        refine k_steps HG 2 (zB_iff.mpr (?_ : G m1 _ (14, [(3, .inl (.int (0 : Int32))), (0, .inl (.ref q0)), (1, .inl (.int v1_1)), (2, .inl (.int v1_2))], [], h, 0, 0)))
        have lp2 : ∀ m2, m2 ≤ m1 → ∀ (v2_1 : Int32) (v2_3 : Int32), G m2 ((fxP Pf (B_X5_envy_4 h q0) 0) (fx (B_X5_envy_14 h q0 v1_2) (Sum.inr 0) (v2_1, v2_3))) (14, [(0, .inl (.ref q0)), (1, .inl (.int v2_1)), (2, .inl (.int v1_2)), (3, .inl (.int v2_3))], [], h, 0, 0) := by
          intro m2
          induction m2 with
          | zero =>
            intros
            exact k_zero HG
          | succ m2 ih2 =>
            intro le2 v2_1 v2_3
            have le2 := Nat.le_of_succ_le le2
            have ih2 := ih2 le2
            refine k_fx ?_
            rw [B_X5_envy_14]
            refine k_first HG 1 (zB_iff.mpr (?_ : G m2 _ (16, [(0, .inl (.ref q0)), (1, .inl (.int v2_1)), (2, .inl (.int v1_2)), (3, .inl (.int v2_3))], [.inl (.ref q0), .inl (.int v2_3)], h, 0, 0)))
            refine k_getI HG rfl K hq_q0 rfl (Nat.le_of_ble_eq_true rfl) rfl (?_ : G m2 _ (19, [(0, .inl (.ref q0)), (1, .inl (.int v2_1)), (2, .inl (.int v1_2)), (3, .inl (.int v2_3))], [.inl (.int (hv h q0 23)), .inl (.int v2_3)], h, 0, 0))
            refine k_steps HG 1 (kb_ge (x := v2_3) (y := (hv h q0 23)) ?_ ?_)
            · show G m2 _ (64, [(0, .inl (.ref q0)), (1, .inl (.int v2_1)), (2, .inl (.int v1_2)), (3, .inl (.int v2_3))], [], h, 0, 0)
              refine k_steps HG 2 (zB_iff.mpr (?_ : G m2 _ (4, [(2, .inl (.int (v1_2 + (1 : Int32)))), (0, .inl (.ref q0)), (1, .inl (.int v2_1)), (3, .inl (.int v2_3))], [], h, 0, 0)))
              refine k_ext HG (L' := [(0, .inl (.ref q0)), (1, .inl (.int v2_1)), (2, .inl (.int (v1_2 + (1 : Int32)))), (3, .inl (.int v2_3))]) rfl rfl ⟨rfl, rfl, rfl, rfl, trivial⟩ ?_
              exact k_mono HG le2 (ih1 _ _ _)
            · show G m2 _ (22, [(0, .inl (.ref q0)), (1, .inl (.int v2_1)), (2, .inl (.int v1_2)), (3, .inl (.int v2_3))], [], h, 0, 0)
              refine k_steps HG 4 (kb_eq (x := v1_2) (y := v2_3) ?_ ?_)
              · show G m2 _ (55, [(0, .inl (.ref q0)), (1, .inl (.int v2_1)), (2, .inl (.int v1_2)), (3, .inl (.int v2_3))], [.inl (.int v2_1)], h, 0, 0)
                refine k_steps HG 5 (zB_iff.mpr (?_ : G m2 _ (14, [(3, .inl (.int (v2_3 + (1 : Int32)))), (1, .inl (.int (v2_1 + (0 : Int32)))), (0, .inl (.ref q0)), (2, .inl (.int v1_2))], [], h, 0, 0)))
                refine k_ext HG (L' := [(0, .inl (.ref q0)), (1, .inl (.int (v2_1 + (0 : Int32)))), (2, .inl (.int v1_2)), (3, .inl (.int (v2_3 + (1 : Int32))))]) rfl rfl ⟨rfl, rfl, rfl, rfl, trivial⟩ ?_
                exact ih2 _ _
              · show G m2 _ (28, [(0, .inl (.ref q0)), (1, .inl (.int v2_1)), (2, .inl (.int v1_2)), (3, .inl (.int v2_3))], [.inl (.int v2_1)], h, 0, 0)
                refine k_steps HG 4 (zB_iff.mpr (?_ : G m2 _ (32, [(0, .inl (.ref q0)), (1, .inl (.int v2_1)), (2, .inl (.int v1_2)), (3, .inl (.int v2_3))], [.inl (.int v2_3), .inl (.ref q0), .inl (.int v1_2), .inl (.ref q0), .inl (.int v2_1)], h, 0, 0)))
                refine k_cVI HG (E' := ze_X5_owned) (Or.inl ⟨rfl, rfl⟩) hsc rfl rfl rfl rfl rfl (fun hh => x_X5_owned hsc K.1 hq_q0 hh) (fun y3 => (?_ : G m2 _ (35, [(0, .inl (.ref q0)), (1, .inl (.int v2_1)), (2, .inl (.int v1_2)), (3, .inl (.int v2_3))], [.inl (.int y3), .inl (.int v1_2), .inl (.ref q0), .inl (.int v2_1)], h, 0, 0)))
                refine k_cVI HG (E' := ze_X5_liked) (Or.inl ⟨rfl, rfl⟩) hsc rfl rfl rfl rfl rfl (fun hh => x_X5_liked hsc K.1 hq_q0 hh) (fun y4 => (?_ : G m2 _ (38, [(0, .inl (.ref q0)), (1, .inl (.int v2_1)), (2, .inl (.int v1_2)), (3, .inl (.int v2_3))], [.inl (.int y4), .inl (.int v2_1)], h, 0, 0)))
                refine k_steps HG 4 (zB_iff.mpr (?_ : G m2 _ (42, [(0, .inl (.ref q0)), (1, .inl (.int v2_1)), (2, .inl (.int v1_2)), (3, .inl (.int v2_3))], [.inl (.int v1_2), .inl (.ref q0), .inl (.int v1_2), .inl (.ref q0), .inl (.int y4), .inl (.int v2_1)], h, 0, 0)))
                refine k_cVI HG (E' := ze_X5_owned) (Or.inl ⟨rfl, rfl⟩) hsc rfl rfl rfl rfl rfl (fun hh => x_X5_owned hsc K.1 hq_q0 hh) (fun y5 => (?_ : G m2 _ (45, [(0, .inl (.ref q0)), (1, .inl (.int v2_1)), (2, .inl (.int v1_2)), (3, .inl (.int v2_3))], [.inl (.int y5), .inl (.int v1_2), .inl (.ref q0), .inl (.int y4), .inl (.int v2_1)], h, 0, 0)))
                refine k_cVI HG (E' := ze_X5_liked) (Or.inl ⟨rfl, rfl⟩) hsc rfl rfl rfl rfl rfl (fun hh => x_X5_liked hsc K.1 hq_q0 hh) (fun y6 => (?_ : G m2 _ (48, [(0, .inl (.ref q0)), (1, .inl (.int v2_1)), (2, .inl (.int v1_2)), (3, .inl (.int v2_3))], [.inl (.int y6), .inl (.int y4), .inl (.int v2_1)], h, 0, 0)))
                refine k_steps HG 1 (kb_le (x := y4) (y := y6) ?_ ?_)
                · show G m2 _ (55, [(0, .inl (.ref q0)), (1, .inl (.int v2_1)), (2, .inl (.int v1_2)), (3, .inl (.int v2_3))], [.inl (.int v2_1)], h, 0, 0)
                  refine k_steps HG 5 (zB_iff.mpr (?_ : G m2 _ (14, [(3, .inl (.int (v2_3 + (1 : Int32)))), (1, .inl (.int (v2_1 + (0 : Int32)))), (0, .inl (.ref q0)), (2, .inl (.int v1_2))], [], h, 0, 0)))
                  refine k_ext HG (L' := [(0, .inl (.ref q0)), (1, .inl (.int (v2_1 + (0 : Int32)))), (2, .inl (.int v1_2)), (3, .inl (.int (v2_3 + (1 : Int32))))]) rfl rfl ⟨rfl, rfl, rfl, rfl, trivial⟩ ?_
                  exact ih2 _ _
                · show G m2 _ (51, [(0, .inl (.ref q0)), (1, .inl (.int v2_1)), (2, .inl (.int v1_2)), (3, .inl (.int v2_3))], [.inl (.int v2_1)], h, 0, 0)
                  refine k_steps HG 6 (zB_iff.mpr (?_ : G m2 _ (14, [(3, .inl (.int (v2_3 + (1 : Int32)))), (1, .inl (.int (v2_1 + (1 : Int32)))), (0, .inl (.ref q0)), (2, .inl (.int v1_2))], [], h, 0, 0)))
                  refine k_ext HG (L' := [(0, .inl (.ref q0)), (1, .inl (.int (v2_1 + (1 : Int32)))), (2, .inl (.int v1_2)), (3, .inl (.int (v2_3 + (1 : Int32))))]) rfl rfl ⟨rfl, rfl, rfl, rfl, trivial⟩ ?_
                  exact ih2 _ _
        refine k_ext HG (L' := [(0, .inl (.ref q0)), (1, .inl (.int v1_1)), (2, .inl (.int v1_2)), (3, .inl (.int (0 : Int32)))]) rfl rfl ⟨rfl, rfl, rfl, rfl, trivial⟩ ?_
        exact lp2 m1 (Nat.le_refl _) _ _
  refine k_ext HG (L' := [(0, .inl (.ref q0)), (1, .inl (.int (0 : Int32))), (2, .inl (.int (0 : Int32))), (3, .inl (.int (0 : Int32)))]) rfl rfl ⟨rfl, rfl, rfl, trivial⟩ ?_
  exact lp1 m (Nat.le_refl _) _ _ _
