def W_X5_look : List (Nat × Nat) := [(5, 28), (5, 29), (5, 30), (5, 31)]
noncomputable def J_X5_look_j263 (h : zH) (c0 : Nat) : zH := h
theorem w_X5_look_j263 {scr : List zV} {T0 T : List Nat} {d m : Nat} {r : Option zV} {h' h h0 : zH} {G : Nat → Prop → zS → Prop} {Pf : zH → Prop} {c0 : Nat} (HG : G = GL ze_X5_look scr (zEc ze_X5_look) (zEs ze_X5_look) (zD zprog scr d) r h') (hsc : cT scr) (hR : ∀ hh, (none : Option zV) = r → hh = h' → kOK W_X5_look T0 T h0 hh → Pf hh) (K : kOK W_X5_look T0 T h0 h) (hq_c0 : T[c0]? = some 5) : G m (Pf (J_X5_look_j263 h c0)) (263, [(0, .inl (.ref c0))], [], h, 0, 0) := by
  unfold J_X5_look_j263
  exact k_retv HG rfl rfl (fun e1 e2 => hR _ e1 e2 K)
noncomputable def B_X5_look_149 (c0 : Nat) (s : (zH)) : (zH) ⊕ (zH) := (if (hv s c0 28) < (hv s c0 7) then (letf (F_X5_isDigit (hv s (hr s c0 6) (hv s c0 28).toNatClampNeg)) (fun y2002 => (if y2002 = (0 : Int32) then (Sum.inr (J_X5_look_j263 s c0)) else (if ((hv s c0 28) - (hv s c0 30)) < (4 : Int32) then (letf (hput s c0 31 (.inl (.int ((((hv s c0 31) * (10 : Int32)) + (hv s (hr s c0 6) (hv s c0 28).toNatClampNeg)) - (48 : Int32))))) (fun h2006 => (letf (hput h2006 c0 28 (.inl (.int ((hv h2006 c0 28) + (1 : Int32))))) (fun h2007 => (Sum.inl h2007))))) else (letf (hput s c0 31 (.inl (.int (100000 : Int32)))) (fun h2003 => (letf (hput h2003 c0 28 (.inl (.int ((hv h2003 c0 28) + (1 : Int32))))) (fun h2004 => (Sum.inl h2004))))))))) else (Sum.inr (J_X5_look_j263 s c0)))
noncomputable def B_X5_look_90 (c0 : Nat) (s : (zH)) : (zH) ⊕ (zH) := (if (hv s c0 28) < (hv s c0 7) then (letf (F_X5_isLetter (hv s (hr s c0 6) (hv s c0 28).toNatClampNeg)) (fun y3002 => (if y3002 = (0 : Int32) then (Sum.inr (J_X5_look_j263 s c0)) else (letf (hput s c0 28 (.inl (.int ((hv s c0 28) + (1 : Int32))))) (fun h3003 => (Sum.inl h3003)))))) else (Sum.inr (J_X5_look_j263 s c0)))
noncomputable def J_X5_look_j250 (h : zH) (c0 : Nat) (s0 : Int32) (s1 : Nat) : zH := (letf (hput h s1 29 (.inl (.int s0))) (fun h30001 => (letf (hput h30001 c0 28 (.inl (.int ((hv h30001 c0 28) + (1 : Int32))))) (fun h30002 => (J_X5_look_j263 h30002 c0)))))
theorem w_X5_look_j250 {scr : List zV} {T0 T : List Nat} {d m : Nat} {r : Option zV} {h' h h0 : zH} {G : Nat → Prop → zS → Prop} {Pf : zH → Prop} {c0 : Nat} {s0 : Int32} {s1 : Nat} (HG : G = GL ze_X5_look scr (zEc ze_X5_look) (zEs ze_X5_look) (zD zprog scr d) r h') (hsc : cT scr) (hR : ∀ hh, (none : Option zV) = r → hh = h' → kOK W_X5_look T0 T h0 hh → Pf hh) (K : kOK W_X5_look T0 T h0 h) (hq_c0 : T[c0]? = some 5) (hq_s1 : T[s1]? = some 5) : G m (Pf (J_X5_look_j250 h c0 s0 s1)) (250, [(0, .inl (.ref c0))], [.inl (.int s0), .inl (.ref s1)], h, 0, 0) := by
  unfold J_X5_look_j250
  refine k_putI HG rfl K hq_s1 rfl rfl rfl (fun h30001 K30001 => (?_ : G m _ (253, [(0, .inl (.ref c0))], [], h30001, 0, 0)))
  refine k_steps HG 2 (zB_iff.mpr (?_ : G m _ (255, [(0, .inl (.ref c0))], [.inl (.ref c0), .inl (.ref c0)], h30001, 0, 0)))
  refine k_getI HG rfl K30001 hq_c0 rfl (Nat.le_of_ble_eq_true rfl) rfl (?_ : G m _ (258, [(0, .inl (.ref c0))], [.inl (.int (hv h30001 c0 28)), .inl (.ref c0)], h30001, 0, 0))
  refine k_steps HG 2 (zB_iff.mpr (?_ : G m _ (260, [(0, .inl (.ref c0))], [.inl (.int ((hv h30001 c0 28) + (1 : Int32))), .inl (.ref c0)], h30001, 0, 0)))
  refine k_putI HG rfl K30001 hq_c0 rfl rfl rfl (fun h30002 K30002 => (?_ : G m _ (263, [(0, .inl (.ref c0))], [], h30002, 0, 0)))
  exact w_X5_look_j263 HG hsc hR K30002 hq_c0
noncomputable def J_X5_look_j38 (h : zH) (c0 : Nat) : zH := (letf (hput h c0 30 (.inl (.int (hv h c0 28)))) (fun h8801 => (letf (hput h8801 c0 31 (.inl (.int (0 : Int32)))) (fun h8802 => (if (hv h8802 c0 28) = (hv h8802 c0 7) then (letf (hput h8802 c0 29 (.inl (.int (0 : Int32)))) (fun h8822 => (J_X5_look_j263 h8822 c0))) else (letf (F_X5_isLetter (hv h8802 (hr h8802 c0 6) (hv h8802 c0 28).toNatClampNeg)) (fun y8804 => (if y8804 = (0 : Int32) then (letf (F_X5_isDigit (hv h8802 (hr h8802 c0 6) (hv h8802 c0 28).toNatClampNeg)) (fun y8806 => (if y8806 = (0 : Int32) then (if (hv h8802 (hr h8802 c0 6) (hv h8802 c0 28).toNatClampNeg) = (59 : Int32) then (J_X5_look_j250 h8802 c0 (3 : Int32) c0) else (J_X5_look_j250 h8802 c0 (4 : Int32) c0)) else (letf (hput h8802 c0 29 (.inl (.int (2 : Int32)))) (fun h8808 => (fx (B_X5_look_149 c0) [] h8808)))))) else (letf (hput h8802 c0 29 (.inl (.int (1 : Int32)))) (fun h8817 => (fx (B_X5_look_90 c0) [] h8817)))))))))))
theorem w_X5_look_j38 {scr : List zV} {T0 T : List Nat} {d m : Nat} {r : Option zV} {h' h h0 : zH} {G : Nat → Prop → zS → Prop} {Pf : zH → Prop} {c0 : Nat} (HG : G = GL ze_X5_look scr (zEc ze_X5_look) (zEs ze_X5_look) (zD zprog scr d) r h') (hsc : cT scr) (hR : ∀ hh, (none : Option zV) = r → hh = h' → kOK W_X5_look T0 T h0 hh → Pf hh) (K : kOK W_X5_look T0 T h0 h) (hq_c0 : T[c0]? = some 5) : G m (Pf (J_X5_look_j38 h c0)) (38, [(0, .inl (.ref c0))], [], h, 0, 0) := by
  unfold J_X5_look_j38
  refine k_steps HG 2 (zB_iff.mpr (?_ : G m _ (40, [(0, .inl (.ref c0))], [.inl (.ref c0), .inl (.ref c0)], h, 0, 0)))
  refine k_getI HG rfl K hq_c0 rfl (Nat.le_of_ble_eq_true rfl) rfl (?_ : G m _ (43, [(0, .inl (.ref c0))], [.inl (.int (hv h c0 28)), .inl (.ref c0)], h, 0, 0))
  refine k_putI HG rfl K hq_c0 rfl rfl rfl (fun h8801 K8801 => (?_ : G m _ (46, [(0, .inl (.ref c0))], [], h8801, 0, 0)))
  refine k_steps HG 2 (zB_iff.mpr (?_ : G m _ (48, [(0, .inl (.ref c0))], [.inl (.int (0 : Int32)), .inl (.ref c0)], h8801, 0, 0)))
  refine k_putI HG rfl K8801 hq_c0 rfl rfl rfl (fun h8802 K8802 => (?_ : G m _ (51, [(0, .inl (.ref c0))], [], h8802, 0, 0)))
  refine k_steps HG 1 (zB_iff.mpr (?_ : G m _ (52, [(0, .inl (.ref c0))], [.inl (.ref c0)], h8802, 0, 0)))
  refine k_getI HG rfl K8802 hq_c0 rfl (Nat.le_of_ble_eq_true rfl) rfl (?_ : G m _ (55, [(0, .inl (.ref c0))], [.inl (.int (hv h8802 c0 28))], h8802, 0, 0))
  refine k_steps HG 1 (zB_iff.mpr (?_ : G m _ (56, [(0, .inl (.ref c0))], [.inl (.ref c0), .inl (.int (hv h8802 c0 28))], h8802, 0, 0)))
  refine k_getI HG rfl K8802 hq_c0 rfl (Nat.le_of_ble_eq_true rfl) rfl (?_ : G m _ (59, [(0, .inl (.ref c0))], [.inl (.int (hv h8802 c0 7)), .inl (.int (hv h8802 c0 28))], h8802, 0, 0))
  refine k_steps HG 1 (kb_ne (x := (hv h8802 c0 28)) (y := (hv h8802 c0 7)) ?_ ?_)
  · show G m _ (70, [(0, .inl (.ref c0))], [], h8802, 0, 0)
    refine k_steps HG 1 (zB_iff.mpr (?_ : G m _ (71, [(0, .inl (.ref c0))], [.inl (.ref c0)], h8802, 0, 0)))
    refine k_getR HG rfl K8802 hq_c0 rfl (Nat.le_of_ble_eq_true rfl) rfl rfl (fun t8803 => (?_ : G m _ (74, [(0, .inl (.ref c0))], [.inl (.ref (hr h8802 c0 6))], h8802, 0, 0)))
    refine k_steps HG 1 (zB_iff.mpr (?_ : G m _ (75, [(0, .inl (.ref c0))], [.inl (.ref c0), .inl (.ref (hr h8802 c0 6))], h8802, 0, 0)))
    refine k_getI HG rfl K8802 hq_c0 rfl (Nat.le_of_ble_eq_true rfl) rfl (?_ : G m _ (78, [(0, .inl (.ref c0))], [.inl (.int (hv h8802 c0 28)), .inl (.ref (hr h8802 c0 6))], h8802, 0, 0))
    refine k_iald HG rfl K8802 t8803 rfl (fun _ => rfl) (?_ : G m _ (79, [(0, .inl (.ref c0))], [.inl (.int (hv h8802 (hr h8802 c0 6) (hv h8802 c0 28).toNatClampNeg))], h8802, 0, 0))
    refine k_cSI HG (E' := ze_X5_isLetter) (Or.inl rfl) hsc rfl rfl rfl rfl (fun hh => x_X5_isLetter hsc hh) (fun y8804 => (?_ : G m _ (82, [(0, .inl (.ref c0))], [.inl (.int y8804)], h8802, 0, 0)))
    refine k_steps HG 1 (kb_eq (x := y8804) (y := (0 : Int32)) ?_ ?_)
    · show G m _ (129, [(0, .inl (.ref c0))], [], h8802, 0, 0)
      refine k_steps HG 1 (zB_iff.mpr (?_ : G m _ (130, [(0, .inl (.ref c0))], [.inl (.ref c0)], h8802, 0, 0)))
      refine k_getR HG rfl K8802 hq_c0 rfl (Nat.le_of_ble_eq_true rfl) rfl rfl (fun t8805 => (?_ : G m _ (133, [(0, .inl (.ref c0))], [.inl (.ref (hr h8802 c0 6))], h8802, 0, 0)))
      refine k_steps HG 1 (zB_iff.mpr (?_ : G m _ (134, [(0, .inl (.ref c0))], [.inl (.ref c0), .inl (.ref (hr h8802 c0 6))], h8802, 0, 0)))
      refine k_getI HG rfl K8802 hq_c0 rfl (Nat.le_of_ble_eq_true rfl) rfl (?_ : G m _ (137, [(0, .inl (.ref c0))], [.inl (.int (hv h8802 c0 28)), .inl (.ref (hr h8802 c0 6))], h8802, 0, 0))
      refine k_iald HG rfl K8802 t8805 rfl (fun _ => rfl) (?_ : G m _ (138, [(0, .inl (.ref c0))], [.inl (.int (hv h8802 (hr h8802 c0 6) (hv h8802 c0 28).toNatClampNeg))], h8802, 0, 0))
      refine k_cSI HG (E' := ze_X5_isDigit) (Or.inl rfl) hsc rfl rfl rfl rfl (fun hh => x_X5_isDigit hsc hh) (fun y8806 => (?_ : G m _ (141, [(0, .inl (.ref c0))], [.inl (.int y8806)], h8802, 0, 0)))
      refine k_steps HG 1 (kb_eq (x := y8806) (y := (0 : Int32)) ?_ ?_)
      · show G m _ (230, [(0, .inl (.ref c0))], [], h8802, 0, 0)
        refine k_steps HG 2 (zB_iff.mpr (?_ : G m _ (232, [(0, .inl (.ref c0))], [.inl (.ref c0), .inl (.ref c0)], h8802, 0, 0)))
        refine k_getR HG rfl K8802 hq_c0 rfl (Nat.le_of_ble_eq_true rfl) rfl rfl (fun t8807 => (?_ : G m _ (235, [(0, .inl (.ref c0))], [.inl (.ref (hr h8802 c0 6)), .inl (.ref c0)], h8802, 0, 0)))
        refine k_steps HG 1 (zB_iff.mpr (?_ : G m _ (236, [(0, .inl (.ref c0))], [.inl (.ref c0), .inl (.ref (hr h8802 c0 6)), .inl (.ref c0)], h8802, 0, 0)))
        refine k_getI HG rfl K8802 hq_c0 rfl (Nat.le_of_ble_eq_true rfl) rfl (?_ : G m _ (239, [(0, .inl (.ref c0))], [.inl (.int (hv h8802 c0 28)), .inl (.ref (hr h8802 c0 6)), .inl (.ref c0)], h8802, 0, 0))
        refine k_iald HG rfl K8802 t8807 rfl (fun _ => rfl) (?_ : G m _ (240, [(0, .inl (.ref c0))], [.inl (.int (hv h8802 (hr h8802 c0 6) (hv h8802 c0 28).toNatClampNeg)), .inl (.ref c0)], h8802, 0, 0))
        refine k_steps HG 2 (kb_ne (x := (hv h8802 (hr h8802 c0 6) (hv h8802 c0 28).toNatClampNeg)) (y := (59 : Int32)) ?_ ?_)
        · show G m _ (249, [(0, .inl (.ref c0))], [.inl (.ref c0)], h8802, 0, 0)
          refine k_steps HG 1 (zB_iff.mpr (?_ : G m _ (250, [(0, .inl (.ref c0))], [.inl (.int (4 : Int32)), .inl (.ref c0)], h8802, 0, 0)))
          exact w_X5_look_j250 HG hsc hR K8802 hq_c0 hq_c0
        · show G m _ (245, [(0, .inl (.ref c0))], [.inl (.ref c0)], h8802, 0, 0)
          refine k_steps HG 2 (zB_iff.mpr (?_ : G m _ (250, [(0, .inl (.ref c0))], [.inl (.int (3 : Int32)), .inl (.ref c0)], h8802, 0, 0)))
          exact w_X5_look_j250 HG hsc hR K8802 hq_c0 hq_c0
      · show G m _ (144, [(0, .inl (.ref c0))], [], h8802, 0, 0)
        refine k_steps HG 2 (zB_iff.mpr (?_ : G m _ (146, [(0, .inl (.ref c0))], [.inl (.int (2 : Int32)), .inl (.ref c0)], h8802, 0, 0)))
        refine k_putI HG rfl K8802 hq_c0 rfl rfl rfl (fun h8808 K8808 => (?_ : G m _ (149, [(0, .inl (.ref c0))], [], h8808, 0, 0)))
        have lp8809 : ∀ m8809, m8809 ≤ m → ∀ (h8809 : zH), kOK W_X5_look T0 T h0 h8809 → G m8809 (Pf (fx (B_X5_look_149 c0) [] h8809)) (149, [(0, .inl (.ref c0))], [], h8809, 0, 0) := by
          intro m8809
          induction m8809 with
          | zero =>
            intros
            exact k_zero HG
          | succ m8809 ih8809 =>
            intro le8809 h8809 K8809
            have le8809 := Nat.le_of_succ_le le8809
            have ih8809 := ih8809 le8809
            refine k_fx ?_
            rw [B_X5_look_149]
            refine k_first HG 0 (zB_iff.mpr (?_ : G m8809 _ (150, [(0, .inl (.ref c0))], [.inl (.ref c0)], h8809, 0, 0)))
            refine k_getI HG rfl K8809 hq_c0 rfl (Nat.le_of_ble_eq_true rfl) rfl (?_ : G m8809 _ (153, [(0, .inl (.ref c0))], [.inl (.int (hv h8809 c0 28))], h8809, 0, 0))
            refine k_steps HG 1 (zB_iff.mpr (?_ : G m8809 _ (154, [(0, .inl (.ref c0))], [.inl (.ref c0), .inl (.int (hv h8809 c0 28))], h8809, 0, 0)))
            refine k_getI HG rfl K8809 hq_c0 rfl (Nat.le_of_ble_eq_true rfl) rfl (?_ : G m8809 _ (157, [(0, .inl (.ref c0))], [.inl (.int (hv h8809 c0 7)), .inl (.int (hv h8809 c0 28))], h8809, 0, 0))
            refine k_steps HG 1 (kb_ge (x := (hv h8809 c0 28)) (y := (hv h8809 c0 7)) ?_ ?_)
            · show G m8809 _ (263, [(0, .inl (.ref c0))], [], h8809, 0, 0)
              exact w_X5_look_j263 HG hsc hR K8809 hq_c0
            · show G m8809 _ (160, [(0, .inl (.ref c0))], [], h8809, 0, 0)
              refine k_steps HG 1 (zB_iff.mpr (?_ : G m8809 _ (161, [(0, .inl (.ref c0))], [.inl (.ref c0)], h8809, 0, 0)))
              refine k_getR HG rfl K8809 hq_c0 rfl (Nat.le_of_ble_eq_true rfl) rfl rfl (fun t8810 => (?_ : G m8809 _ (164, [(0, .inl (.ref c0))], [.inl (.ref (hr h8809 c0 6))], h8809, 0, 0)))
              refine k_steps HG 1 (zB_iff.mpr (?_ : G m8809 _ (165, [(0, .inl (.ref c0))], [.inl (.ref c0), .inl (.ref (hr h8809 c0 6))], h8809, 0, 0)))
              refine k_getI HG rfl K8809 hq_c0 rfl (Nat.le_of_ble_eq_true rfl) rfl (?_ : G m8809 _ (168, [(0, .inl (.ref c0))], [.inl (.int (hv h8809 c0 28)), .inl (.ref (hr h8809 c0 6))], h8809, 0, 0))
              refine k_iald HG rfl K8809 t8810 rfl (fun _ => rfl) (?_ : G m8809 _ (169, [(0, .inl (.ref c0))], [.inl (.int (hv h8809 (hr h8809 c0 6) (hv h8809 c0 28).toNatClampNeg))], h8809, 0, 0))
              refine k_cSI HG (E' := ze_X5_isDigit) (Or.inl rfl) hsc rfl rfl rfl rfl (fun hh => x_X5_isDigit hsc hh) (fun y8811 => (?_ : G m8809 _ (172, [(0, .inl (.ref c0))], [.inl (.int y8811)], h8809, 0, 0)))
              refine k_steps HG 1 (kb_eq (x := y8811) (y := (0 : Int32)) ?_ ?_)
              · show G m8809 _ (263, [(0, .inl (.ref c0))], [], h8809, 0, 0)
                exact w_X5_look_j263 HG hsc hR K8809 hq_c0
              · show G m8809 _ (175, [(0, .inl (.ref c0))], [], h8809, 0, 0)
                refine k_steps HG 2 (zB_iff.mpr (?_ : G m8809 _ (177, [(0, .inl (.ref c0))], [.inl (.ref c0), .inl (.ref c0)], h8809, 0, 0)))
                refine k_getI HG rfl K8809 hq_c0 rfl (Nat.le_of_ble_eq_true rfl) rfl (?_ : G m8809 _ (180, [(0, .inl (.ref c0))], [.inl (.int (hv h8809 c0 28)), .inl (.ref c0)], h8809, 0, 0))
                refine k_steps HG 1 (zB_iff.mpr (?_ : G m8809 _ (181, [(0, .inl (.ref c0))], [.inl (.ref c0), .inl (.int (hv h8809 c0 28)), .inl (.ref c0)], h8809, 0, 0)))
                refine k_getI HG rfl K8809 hq_c0 rfl (Nat.le_of_ble_eq_true rfl) rfl (?_ : G m8809 _ (184, [(0, .inl (.ref c0))], [.inl (.int (hv h8809 c0 30)), .inl (.int (hv h8809 c0 28)), .inl (.ref c0)], h8809, 0, 0))
                refine k_steps HG 3 (kb_ge (x := ((hv h8809 c0 28) - (hv h8809 c0 30))) (y := (4 : Int32)) ?_ ?_)
                · show G m8809 _ (212, [(0, .inl (.ref c0))], [.inl (.ref c0)], h8809, 0, 0)
                  refine k_steps HG 1 (zB_iff.mpr (?_ : G m8809 _ (214, [(0, .inl (.ref c0))], [.inl (.int (100000 : Int32)), .inl (.ref c0)], h8809, 0, 0)))
                  refine k_putI HG rfl K8809 hq_c0 rfl rfl rfl (fun h8812 K8812 => (?_ : G m8809 _ (217, [(0, .inl (.ref c0))], [], h8812, 0, 0)))
                  refine k_steps HG 2 (zB_iff.mpr (?_ : G m8809 _ (219, [(0, .inl (.ref c0))], [.inl (.ref c0), .inl (.ref c0)], h8812, 0, 0)))
                  refine k_getI HG rfl K8812 hq_c0 rfl (Nat.le_of_ble_eq_true rfl) rfl (?_ : G m8809 _ (222, [(0, .inl (.ref c0))], [.inl (.int (hv h8812 c0 28)), .inl (.ref c0)], h8812, 0, 0))
                  refine k_steps HG 2 (zB_iff.mpr (?_ : G m8809 _ (224, [(0, .inl (.ref c0))], [.inl (.int ((hv h8812 c0 28) + (1 : Int32))), .inl (.ref c0)], h8812, 0, 0)))
                  refine k_putI HG rfl K8812 hq_c0 rfl rfl rfl (fun h8813 K8813 => (?_ : G m8809 _ (227, [(0, .inl (.ref c0))], [], h8813, 0, 0)))
                  refine k_steps HG 1 (zB_iff.mpr (?_ : G m8809 _ (149, [(0, .inl (.ref c0))], [], h8813, 0, 0)))
                  exact ih8809 _ K8813
                · show G m8809 _ (189, [(0, .inl (.ref c0))], [.inl (.ref c0)], h8809, 0, 0)
                  refine k_steps HG 1 (zB_iff.mpr (?_ : G m8809 _ (190, [(0, .inl (.ref c0))], [.inl (.ref c0), .inl (.ref c0)], h8809, 0, 0)))
                  refine k_getI HG rfl K8809 hq_c0 rfl (Nat.le_of_ble_eq_true rfl) rfl (?_ : G m8809 _ (193, [(0, .inl (.ref c0))], [.inl (.int (hv h8809 c0 31)), .inl (.ref c0)], h8809, 0, 0))
                  refine k_steps HG 3 (zB_iff.mpr (?_ : G m8809 _ (197, [(0, .inl (.ref c0))], [.inl (.ref c0), .inl (.int ((hv h8809 c0 31) * (10 : Int32))), .inl (.ref c0)], h8809, 0, 0)))
                  refine k_getR HG rfl K8809 hq_c0 rfl (Nat.le_of_ble_eq_true rfl) rfl rfl (fun t8814 => (?_ : G m8809 _ (200, [(0, .inl (.ref c0))], [.inl (.ref (hr h8809 c0 6)), .inl (.int ((hv h8809 c0 31) * (10 : Int32))), .inl (.ref c0)], h8809, 0, 0)))
                  refine k_steps HG 1 (zB_iff.mpr (?_ : G m8809 _ (201, [(0, .inl (.ref c0))], [.inl (.ref c0), .inl (.ref (hr h8809 c0 6)), .inl (.int ((hv h8809 c0 31) * (10 : Int32))), .inl (.ref c0)], h8809, 0, 0)))
                  refine k_getI HG rfl K8809 hq_c0 rfl (Nat.le_of_ble_eq_true rfl) rfl (?_ : G m8809 _ (204, [(0, .inl (.ref c0))], [.inl (.int (hv h8809 c0 28)), .inl (.ref (hr h8809 c0 6)), .inl (.int ((hv h8809 c0 31) * (10 : Int32))), .inl (.ref c0)], h8809, 0, 0))
                  refine k_iald HG rfl K8809 t8814 rfl (fun _ => rfl) (?_ : G m8809 _ (205, [(0, .inl (.ref c0))], [.inl (.int (hv h8809 (hr h8809 c0 6) (hv h8809 c0 28).toNatClampNeg)), .inl (.int ((hv h8809 c0 31) * (10 : Int32))), .inl (.ref c0)], h8809, 0, 0))
                  refine k_steps HG 4 (zB_iff.mpr (?_ : G m8809 _ (214, [(0, .inl (.ref c0))], [.inl (.int ((((hv h8809 c0 31) * (10 : Int32)) + (hv h8809 (hr h8809 c0 6) (hv h8809 c0 28).toNatClampNeg)) - (48 : Int32))), .inl (.ref c0)], h8809, 0, 0)))
                  refine k_putI HG rfl K8809 hq_c0 rfl rfl rfl (fun h8815 K8815 => (?_ : G m8809 _ (217, [(0, .inl (.ref c0))], [], h8815, 0, 0)))
                  refine k_steps HG 2 (zB_iff.mpr (?_ : G m8809 _ (219, [(0, .inl (.ref c0))], [.inl (.ref c0), .inl (.ref c0)], h8815, 0, 0)))
                  refine k_getI HG rfl K8815 hq_c0 rfl (Nat.le_of_ble_eq_true rfl) rfl (?_ : G m8809 _ (222, [(0, .inl (.ref c0))], [.inl (.int (hv h8815 c0 28)), .inl (.ref c0)], h8815, 0, 0))
                  refine k_steps HG 2 (zB_iff.mpr (?_ : G m8809 _ (224, [(0, .inl (.ref c0))], [.inl (.int ((hv h8815 c0 28) + (1 : Int32))), .inl (.ref c0)], h8815, 0, 0)))
                  refine k_putI HG rfl K8815 hq_c0 rfl rfl rfl (fun h8816 K8816 => (?_ : G m8809 _ (227, [(0, .inl (.ref c0))], [], h8816, 0, 0)))
                  refine k_steps HG 1 (zB_iff.mpr (?_ : G m8809 _ (149, [(0, .inl (.ref c0))], [], h8816, 0, 0)))
                  exact ih8809 _ K8816
        exact lp8809 m (Nat.le_refl _) _ K8808
    · show G m _ (85, [(0, .inl (.ref c0))], [], h8802, 0, 0)
      refine k_steps HG 2 (zB_iff.mpr (?_ : G m _ (87, [(0, .inl (.ref c0))], [.inl (.int (1 : Int32)), .inl (.ref c0)], h8802, 0, 0)))
      refine k_putI HG rfl K8802 hq_c0 rfl rfl rfl (fun h8817 K8817 => (?_ : G m _ (90, [(0, .inl (.ref c0))], [], h8817, 0, 0)))
      have lp8818 : ∀ m8818, m8818 ≤ m → ∀ (h8818 : zH), kOK W_X5_look T0 T h0 h8818 → G m8818 (Pf (fx (B_X5_look_90 c0) [] h8818)) (90, [(0, .inl (.ref c0))], [], h8818, 0, 0) := by
        intro m8818
        induction m8818 with
        | zero =>
          intros
          exact k_zero HG
        | succ m8818 ih8818 =>
          intro le8818 h8818 K8818
          have le8818 := Nat.le_of_succ_le le8818
          have ih8818 := ih8818 le8818
          refine k_fx ?_
          rw [B_X5_look_90]
          refine k_first HG 0 (zB_iff.mpr (?_ : G m8818 _ (91, [(0, .inl (.ref c0))], [.inl (.ref c0)], h8818, 0, 0)))
          refine k_getI HG rfl K8818 hq_c0 rfl (Nat.le_of_ble_eq_true rfl) rfl (?_ : G m8818 _ (94, [(0, .inl (.ref c0))], [.inl (.int (hv h8818 c0 28))], h8818, 0, 0))
          refine k_steps HG 1 (zB_iff.mpr (?_ : G m8818 _ (95, [(0, .inl (.ref c0))], [.inl (.ref c0), .inl (.int (hv h8818 c0 28))], h8818, 0, 0)))
          refine k_getI HG rfl K8818 hq_c0 rfl (Nat.le_of_ble_eq_true rfl) rfl (?_ : G m8818 _ (98, [(0, .inl (.ref c0))], [.inl (.int (hv h8818 c0 7)), .inl (.int (hv h8818 c0 28))], h8818, 0, 0))
          refine k_steps HG 1 (kb_ge (x := (hv h8818 c0 28)) (y := (hv h8818 c0 7)) ?_ ?_)
          · show G m8818 _ (263, [(0, .inl (.ref c0))], [], h8818, 0, 0)
            exact w_X5_look_j263 HG hsc hR K8818 hq_c0
          · show G m8818 _ (101, [(0, .inl (.ref c0))], [], h8818, 0, 0)
            refine k_steps HG 1 (zB_iff.mpr (?_ : G m8818 _ (102, [(0, .inl (.ref c0))], [.inl (.ref c0)], h8818, 0, 0)))
            refine k_getR HG rfl K8818 hq_c0 rfl (Nat.le_of_ble_eq_true rfl) rfl rfl (fun t8819 => (?_ : G m8818 _ (105, [(0, .inl (.ref c0))], [.inl (.ref (hr h8818 c0 6))], h8818, 0, 0)))
            refine k_steps HG 1 (zB_iff.mpr (?_ : G m8818 _ (106, [(0, .inl (.ref c0))], [.inl (.ref c0), .inl (.ref (hr h8818 c0 6))], h8818, 0, 0)))
            refine k_getI HG rfl K8818 hq_c0 rfl (Nat.le_of_ble_eq_true rfl) rfl (?_ : G m8818 _ (109, [(0, .inl (.ref c0))], [.inl (.int (hv h8818 c0 28)), .inl (.ref (hr h8818 c0 6))], h8818, 0, 0))
            refine k_iald HG rfl K8818 t8819 rfl (fun _ => rfl) (?_ : G m8818 _ (110, [(0, .inl (.ref c0))], [.inl (.int (hv h8818 (hr h8818 c0 6) (hv h8818 c0 28).toNatClampNeg))], h8818, 0, 0))
            refine k_cSI HG (E' := ze_X5_isLetter) (Or.inl rfl) hsc rfl rfl rfl rfl (fun hh => x_X5_isLetter hsc hh) (fun y8820 => (?_ : G m8818 _ (113, [(0, .inl (.ref c0))], [.inl (.int y8820)], h8818, 0, 0)))
            refine k_steps HG 1 (kb_eq (x := y8820) (y := (0 : Int32)) ?_ ?_)
            · show G m8818 _ (263, [(0, .inl (.ref c0))], [], h8818, 0, 0)
              exact w_X5_look_j263 HG hsc hR K8818 hq_c0
            · show G m8818 _ (116, [(0, .inl (.ref c0))], [], h8818, 0, 0)
              refine k_steps HG 2 (zB_iff.mpr (?_ : G m8818 _ (118, [(0, .inl (.ref c0))], [.inl (.ref c0), .inl (.ref c0)], h8818, 0, 0)))
              refine k_getI HG rfl K8818 hq_c0 rfl (Nat.le_of_ble_eq_true rfl) rfl (?_ : G m8818 _ (121, [(0, .inl (.ref c0))], [.inl (.int (hv h8818 c0 28)), .inl (.ref c0)], h8818, 0, 0))
              refine k_steps HG 2 (zB_iff.mpr (?_ : G m8818 _ (123, [(0, .inl (.ref c0))], [.inl (.int ((hv h8818 c0 28) + (1 : Int32))), .inl (.ref c0)], h8818, 0, 0)))
              refine k_putI HG rfl K8818 hq_c0 rfl rfl rfl (fun h8821 K8821 => (?_ : G m8818 _ (126, [(0, .inl (.ref c0))], [], h8821, 0, 0)))
              refine k_steps HG 1 (zB_iff.mpr (?_ : G m8818 _ (90, [(0, .inl (.ref c0))], [], h8821, 0, 0)))
              exact ih8818 _ K8821
      exact lp8818 m (Nat.le_refl _) _ K8817
  · show G m _ (62, [(0, .inl (.ref c0))], [], h8802, 0, 0)
    refine k_steps HG 2 (zB_iff.mpr (?_ : G m _ (64, [(0, .inl (.ref c0))], [.inl (.int (0 : Int32)), .inl (.ref c0)], h8802, 0, 0)))
    refine k_putI HG rfl K8802 hq_c0 rfl rfl rfl (fun h8822 K8822 => (?_ : G m _ (67, [(0, .inl (.ref c0))], [], h8822, 0, 0)))
    refine k_steps HG 1 (zB_iff.mpr (?_ : G m _ (263, [(0, .inl (.ref c0))], [], h8822, 0, 0)))
    exact w_X5_look_j263 HG hsc hR K8822 hq_c0
noncomputable def B_X5_look_0 (c0 : Nat) (s : (zH)) : (zH) ⊕ (zH) := (if (hv s c0 28) < (hv s c0 7) then (if (hv s (hr s c0 6) (hv s c0 28).toNatClampNeg) = (32 : Int32) then (letf (hput s c0 28 (.inl (.int ((hv s c0 28) + (1 : Int32))))) (fun h1002 => (Sum.inl h1002))) else (Sum.inr (J_X5_look_j38 s c0))) else (Sum.inr (J_X5_look_j38 s c0)))
noncomputable def F_X5_look (h : zH) (q0 : Nat) : zH := (fx (B_X5_look_0 q0) [] h)
theorem x_X5_look {scr : List zV} {T : List Nat} {h : zH} {q0 : Nat} (hsc : cT scr) (K : hOK kty T h) (hq_q0 : T[q0]? = some 5) (hh : cH h) : xH scr W_X5_look T T 198 [.inl (.ref q0)] h (F_X5_look h q0) := by
  refine xH_intro (E := ze_X5_look) hsc rfl (cTb_ok rfl) hh (fun d r h' G HG Pf hR m => ?_)
  have K := kOK_refl (W := W_X5_look) K
  unfold F_X5_look
  show G m _ (0, [(0, .inl (.ref q0))], [], h, 0, 0)
  have lp1 : ∀ m1, m1 ≤ m → ∀ (h1 : zH), kOK W_X5_look T T h h1 → G m1 (Pf (fx (B_X5_look_0 q0) [] h1)) (0, [(0, .inl (.ref q0))], [], h1, 0, 0) := by
    intro m1
    induction m1 with
    | zero =>
      intros
      exact k_zero HG
    | succ m1 ih1 =>
      intro le1 h1 K1
      have le1 := Nat.le_of_succ_le le1
      have ih1 := ih1 le1
      refine k_fx ?_
      rw [B_X5_look_0]
      refine k_first HG 0 (zB_iff.mpr (?_ : G m1 _ (1, [(0, .inl (.ref q0))], [.inl (.ref q0)], h1, 0, 0)))
      refine k_getI HG rfl K1 hq_q0 rfl (Nat.le_of_ble_eq_true rfl) rfl (?_ : G m1 _ (4, [(0, .inl (.ref q0))], [.inl (.int (hv h1 q0 28))], h1, 0, 0))
      refine k_steps HG 1 (zB_iff.mpr (?_ : G m1 _ (5, [(0, .inl (.ref q0))], [.inl (.ref q0), .inl (.int (hv h1 q0 28))], h1, 0, 0)))
      refine k_getI HG rfl K1 hq_q0 rfl (Nat.le_of_ble_eq_true rfl) rfl (?_ : G m1 _ (8, [(0, .inl (.ref q0))], [.inl (.int (hv h1 q0 7)), .inl (.int (hv h1 q0 28))], h1, 0, 0))
      refine k_steps HG 1 (kb_ge (x := (hv h1 q0 28)) (y := (hv h1 q0 7)) ?_ ?_)
      · show G m1 _ (38, [(0, .inl (.ref q0))], [], h1, 0, 0)
        exact w_X5_look_j38 HG hsc hR K1 hq_q0
      · show G m1 _ (11, [(0, .inl (.ref q0))], [], h1, 0, 0)
        refine k_steps HG 1 (zB_iff.mpr (?_ : G m1 _ (12, [(0, .inl (.ref q0))], [.inl (.ref q0)], h1, 0, 0)))
        refine k_getR HG rfl K1 hq_q0 rfl (Nat.le_of_ble_eq_true rfl) rfl rfl (fun t2 => (?_ : G m1 _ (15, [(0, .inl (.ref q0))], [.inl (.ref (hr h1 q0 6))], h1, 0, 0)))
        refine k_steps HG 1 (zB_iff.mpr (?_ : G m1 _ (16, [(0, .inl (.ref q0))], [.inl (.ref q0), .inl (.ref (hr h1 q0 6))], h1, 0, 0)))
        refine k_getI HG rfl K1 hq_q0 rfl (Nat.le_of_ble_eq_true rfl) rfl (?_ : G m1 _ (19, [(0, .inl (.ref q0))], [.inl (.int (hv h1 q0 28)), .inl (.ref (hr h1 q0 6))], h1, 0, 0))
        refine k_iald HG rfl K1 t2 rfl (fun _ => rfl) (?_ : G m1 _ (20, [(0, .inl (.ref q0))], [.inl (.int (hv h1 (hr h1 q0 6) (hv h1 q0 28).toNatClampNeg))], h1, 0, 0))
        refine k_steps HG 2 (kb_ne (x := (hv h1 (hr h1 q0 6) (hv h1 q0 28).toNatClampNeg)) (y := (32 : Int32)) ?_ ?_)
        · show G m1 _ (38, [(0, .inl (.ref q0))], [], h1, 0, 0)
          exact w_X5_look_j38 HG hsc hR K1 hq_q0
        · show G m1 _ (25, [(0, .inl (.ref q0))], [], h1, 0, 0)
          refine k_steps HG 2 (zB_iff.mpr (?_ : G m1 _ (27, [(0, .inl (.ref q0))], [.inl (.ref q0), .inl (.ref q0)], h1, 0, 0)))
          refine k_getI HG rfl K1 hq_q0 rfl (Nat.le_of_ble_eq_true rfl) rfl (?_ : G m1 _ (30, [(0, .inl (.ref q0))], [.inl (.int (hv h1 q0 28)), .inl (.ref q0)], h1, 0, 0))
          refine k_steps HG 2 (zB_iff.mpr (?_ : G m1 _ (32, [(0, .inl (.ref q0))], [.inl (.int ((hv h1 q0 28) + (1 : Int32))), .inl (.ref q0)], h1, 0, 0)))
          refine k_putI HG rfl K1 hq_q0 rfl rfl rfl (fun h3 K3 => (?_ : G m1 _ (35, [(0, .inl (.ref q0))], [], h3, 0, 0)))
          refine k_steps HG 1 (zB_iff.mpr (?_ : G m1 _ (0, [(0, .inl (.ref q0))], [], h3, 0, 0)))
          exact ih1 _ K3
  exact lp1 m (Nat.le_refl _) _ K
def W_X5_noRow : List (Nat × Nat) := [(30, 1000)]
noncomputable def F_X5_noRow (h : zH) (q0 : Nat) (a1 : Int32) : Int32 × zH := (letf (F_X5_in (Int32.toInt64 a1) (0 : Int64) (7 : Int64)) (fun y1 => (if y1 = (0 : Int32) then (letf (F_X5_refuse h q0 (-2 : Int32)) (fun y6 => (y6.1, y6.2))) else (if (hv h (hr h q0 0) a1.toNatClampNeg) = (2 : Int32) then (letf (F_X5_refuse h q0 (-3 : Int32)) (fun y5 => (y5.1, y5.2))) else (if (hv h (hr h q0 0) a1.toNatClampNeg) = (0 : Int32) then (letf (F_X5_refuse h q0 (-4 : Int32)) (fun y4 => (y4.1, y4.2))) else ((0 : Int32), h))))))
theorem x_X5_noRow {scr : List zV} {T : List Nat} {h : zH} {q0 : Nat} {a1 : Int32} (hsc : cT scr) (K : hOK kty T h) (hq_q0 : T[q0]? = some 5) (hh : cH h) : xIH scr W_X5_noRow T T 202 [.inl (.ref q0), .inl (.int a1)] h (F_X5_noRow h q0 a1) := by
  refine xIH_intro (E := ze_X5_noRow) hsc rfl (cTb_ok rfl) hh (fun d r h' G HG Pf hR m => ?_)
  have K := kOK_refl (W := W_X5_noRow) K
  unfold F_X5_noRow
  show G m _ (0, [(0, .inl (.ref q0)), (1, .inl (.int a1))], [], h, 0, 0)
  refine k_steps HG 4 (zB_iff.mpr (?_ : G m _ (6, [(0, .inl (.ref q0)), (1, .inl (.int a1))], [.inl (.long (7 : Int64)), .inl (.long (0 : Int64)), .inl (.long (Int32.toInt64 a1))], h, 0, 0)))
  refine k_cSI HG (E' := ze_X5_in) (Or.inl rfl) hsc rfl rfl rfl rfl (fun hh => x_X5_in hsc hh) (fun y1 => (?_ : G m _ (9, [(0, .inl (.ref q0)), (1, .inl (.int a1))], [.inl (.int y1)], h, 0, 0)))
  refine k_steps HG 1 (kb_ne (x := y1) (y := (0 : Int32)) ?_ ?_)
  · show G m _ (19, [(0, .inl (.ref q0)), (1, .inl (.int a1))], [], h, 0, 0)
    refine k_steps HG 1 (zB_iff.mpr (?_ : G m _ (20, [(0, .inl (.ref q0)), (1, .inl (.int a1))], [.inl (.ref q0)], h, 0, 0)))
    refine k_getR HG rfl K hq_q0 rfl (Nat.le_of_ble_eq_true rfl) rfl rfl (fun t2 => (?_ : G m _ (23, [(0, .inl (.ref q0)), (1, .inl (.int a1))], [.inl (.ref (hr h q0 0))], h, 0, 0)))
    refine k_steps HG 1 (zB_iff.mpr (?_ : G m _ (24, [(0, .inl (.ref q0)), (1, .inl (.int a1))], [.inl (.int a1), .inl (.ref (hr h q0 0))], h, 0, 0)))
    refine k_iald HG rfl K t2 rfl (fun _ => rfl) (?_ : G m _ (25, [(0, .inl (.ref q0)), (1, .inl (.int a1))], [.inl (.int (hv h (hr h q0 0) a1.toNatClampNeg))], h, 0, 0))
    refine k_steps HG 2 (kb_ne (x := (hv h (hr h q0 0) a1.toNatClampNeg)) (y := (2 : Int32)) ?_ ?_)
    · show G m _ (36, [(0, .inl (.ref q0)), (1, .inl (.int a1))], [], h, 0, 0)
      refine k_steps HG 1 (zB_iff.mpr (?_ : G m _ (37, [(0, .inl (.ref q0)), (1, .inl (.int a1))], [.inl (.ref q0)], h, 0, 0)))
      refine k_getR HG rfl K hq_q0 rfl (Nat.le_of_ble_eq_true rfl) rfl rfl (fun t3 => (?_ : G m _ (40, [(0, .inl (.ref q0)), (1, .inl (.int a1))], [.inl (.ref (hr h q0 0))], h, 0, 0)))
      refine k_steps HG 1 (zB_iff.mpr (?_ : G m _ (41, [(0, .inl (.ref q0)), (1, .inl (.int a1))], [.inl (.int a1), .inl (.ref (hr h q0 0))], h, 0, 0)))
      refine k_iald HG rfl K t3 rfl (fun _ => rfl) (?_ : G m _ (42, [(0, .inl (.ref q0)), (1, .inl (.int a1))], [.inl (.int (hv h (hr h q0 0) a1.toNatClampNeg))], h, 0, 0))
      refine k_steps HG 1 (kb_ne (x := (hv h (hr h q0 0) a1.toNatClampNeg)) (y := (0 : Int32)) ?_ ?_)
      · show G m _ (54, [(0, .inl (.ref q0)), (1, .inl (.int a1))], [], h, 0, 0)
        refine k_steps HG 1 (zB_iff.mpr (?_ : G m _ (55, [(0, .inl (.ref q0)), (1, .inl (.int a1))], [.inl (.int (0 : Int32))], h, 0, 0)))
        exact k_reti HG rfl rfl (fun e1 e2 => hR _ _ e1 e2 K)
      · show G m _ (45, [(0, .inl (.ref q0)), (1, .inl (.int a1))], [], h, 0, 0)
        refine k_steps HG 2 (zB_iff.mpr (?_ : G m _ (48, [(0, .inl (.ref q0)), (1, .inl (.int a1))], [.inl (.int (-4 : Int32)), .inl (.ref q0)], h, 0, 0)))
        refine k_cVIH HG (E' := ze_X5_refuse) (Or.inl ⟨rfl, rfl⟩) hsc rfl rfl rfl rfl rfl K rfl (fun hh => x_X5_refuse hsc K.1 hq_q0 hh) (fun y4 K4 => (?_ : G m _ (51, [(0, .inl (.ref q0)), (1, .inl (.int a1))], [.inl (.int y4.1)], y4.2, 0, 0)))
        refine k_steps HG 1 (zB_iff.mpr (?_ : G m _ (55, [(0, .inl (.ref q0)), (1, .inl (.int a1))], [.inl (.int y4.1)], y4.2, 0, 0)))
        exact k_reti HG rfl rfl (fun e1 e2 => hR _ _ e1 e2 K4)
    · show G m _ (29, [(0, .inl (.ref q0)), (1, .inl (.int a1))], [], h, 0, 0)
      refine k_steps HG 2 (zB_iff.mpr (?_ : G m _ (32, [(0, .inl (.ref q0)), (1, .inl (.int a1))], [.inl (.int (-3 : Int32)), .inl (.ref q0)], h, 0, 0)))
      refine k_cVIH HG (E' := ze_X5_refuse) (Or.inl ⟨rfl, rfl⟩) hsc rfl rfl rfl rfl rfl K rfl (fun hh => x_X5_refuse hsc K.1 hq_q0 hh) (fun y5 K5 => (?_ : G m _ (35, [(0, .inl (.ref q0)), (1, .inl (.int a1))], [.inl (.int y5.1)], y5.2, 0, 0)))
      exact k_reti HG rfl rfl (fun e1 e2 => hR _ _ e1 e2 K5)
  · show G m _ (12, [(0, .inl (.ref q0)), (1, .inl (.int a1))], [], h, 0, 0)
    refine k_steps HG 2 (zB_iff.mpr (?_ : G m _ (15, [(0, .inl (.ref q0)), (1, .inl (.int a1))], [.inl (.int (-2 : Int32)), .inl (.ref q0)], h, 0, 0)))
    refine k_cVIH HG (E' := ze_X5_refuse) (Or.inl ⟨rfl, rfl⟩) hsc rfl rfl rfl rfl rfl K rfl (fun hh => x_X5_refuse hsc K.1 hq_q0 hh) (fun y6 K6 => (?_ : G m _ (18, [(0, .inl (.ref q0)), (1, .inl (.int a1))], [.inl (.int y6.1)], y6.2, 0, 0)))
    exact k_reti HG rfl rfl (fun e1 e2 => hR _ _ e1 e2 K6)
def W_X5_oldest : List (Nat × Nat) := [(30, 1000)]
noncomputable def B_X5_oldest_18 (h : zH) (c0 : Nat) (s : (Int32 × Int32)) : (Int32 × Int32) ⊕ (Int32 × zH) := (if s.2 < (hv h c0 17) then (if (hv h (hr h c0 21) s.1.toNatClampNeg) < (hv h (hr h c0 21) s.2.toNatClampNeg) then (Sum.inl (s.2, (s.2 + (1 : Int32)))) else (Sum.inl (s.1, (s.2 + (1 : Int32))))) else (Sum.inr (s.1, h)))
noncomputable def F_X5_oldest (h : zH) (q0 : Nat) : Int32 × zH := (if (hv h q0 17) = (0 : Int32) then (letf (F_X5_refuse h q0 (-5 : Int32)) (fun y4 => (y4.1, y4.2))) else (fx (B_X5_oldest_18 h q0) (0, []) ((0 : Int32), (1 : Int32))))
theorem x_X5_oldest {scr : List zV} {T : List Nat} {h : zH} {q0 : Nat} (hsc : cT scr) (K : hOK kty T h) (hq_q0 : T[q0]? = some 5) (hh : cH h) : xIH scr W_X5_oldest T T 204 [.inl (.ref q0)] h (F_X5_oldest h q0) := by
  refine xIH_intro (E := ze_X5_oldest) hsc rfl (cTb_ok rfl) hh (fun d r h' G HG Pf hR m => ?_)
  have K := kOK_refl (W := W_X5_oldest) K
  unfold F_X5_oldest
  show G m _ (0, [(0, .inl (.ref q0))], [], h, 0, 0)
  refine k_steps HG 1 (zB_iff.mpr (?_ : G m _ (1, [(0, .inl (.ref q0))], [.inl (.ref q0)], h, 0, 0)))
  refine k_getI HG rfl K hq_q0 rfl (Nat.le_of_ble_eq_true rfl) rfl (?_ : G m _ (4, [(0, .inl (.ref q0))], [.inl (.int (hv h q0 17))], h, 0, 0))
  refine k_steps HG 1 (kb_ne (x := (hv h q0 17)) (y := (0 : Int32)) ?_ ?_)
  · show G m _ (14, [(0, .inl (.ref q0))], [], h, 0, 0)
    refine k_steps HG 4 (zB_iff.mpr (?_ : G m _ (18, [(2, .inl (.int (1 : Int32))), (1, .inl (.int (0 : Int32))), (0, .inl (.ref q0))], [], h, 0, 0)))
    have lp1 : ∀ m1, m1 ≤ m → ∀ (v1_1 : Int32) (v1_2 : Int32), G m1 (Pf (fx (B_X5_oldest_18 h q0) (0, []) (v1_1, v1_2))) (18, [(0, .inl (.ref q0)), (1, .inl (.int v1_1)), (2, .inl (.int v1_2))], [], h, 0, 0) := by
      intro m1
      induction m1 with
      | zero =>
        intros
        exact k_zero HG
      | succ m1 ih1 =>
        intro le1 v1_1 v1_2
        have le1 := Nat.le_of_succ_le le1
        have ih1 := ih1 le1
        refine k_fx ?_
        rw [B_X5_oldest_18]
        refine k_first HG 1 (zB_iff.mpr (?_ : G m1 _ (20, [(0, .inl (.ref q0)), (1, .inl (.int v1_1)), (2, .inl (.int v1_2))], [.inl (.ref q0), .inl (.int v1_2)], h, 0, 0)))
        refine k_getI HG rfl K hq_q0 rfl (Nat.le_of_ble_eq_true rfl) rfl (?_ : G m1 _ (23, [(0, .inl (.ref q0)), (1, .inl (.int v1_1)), (2, .inl (.int v1_2))], [.inl (.int (hv h q0 17)), .inl (.int v1_2)], h, 0, 0))
        refine k_steps HG 1 (kb_ge (x := v1_2) (y := (hv h q0 17)) ?_ ?_)
        · show G m1 _ (53, [(0, .inl (.ref q0)), (1, .inl (.int v1_1)), (2, .inl (.int v1_2))], [], h, 0, 0)
          refine k_steps HG 1 (zB_iff.mpr (?_ : G m1 _ (54, [(0, .inl (.ref q0)), (1, .inl (.int v1_1)), (2, .inl (.int v1_2))], [.inl (.int v1_1)], h, 0, 0)))
          exact k_reti HG rfl rfl (fun e1 e2 => hR _ _ e1 e2 K)
        · show G m1 _ (26, [(0, .inl (.ref q0)), (1, .inl (.int v1_1)), (2, .inl (.int v1_2))], [], h, 0, 0)
          refine k_steps HG 1 (zB_iff.mpr (?_ : G m1 _ (27, [(0, .inl (.ref q0)), (1, .inl (.int v1_1)), (2, .inl (.int v1_2))], [.inl (.ref q0)], h, 0, 0)))
          refine k_getR HG rfl K hq_q0 rfl (Nat.le_of_ble_eq_true rfl) rfl rfl (fun t2 => (?_ : G m1 _ (30, [(0, .inl (.ref q0)), (1, .inl (.int v1_1)), (2, .inl (.int v1_2))], [.inl (.ref (hr h q0 21))], h, 0, 0)))
          refine k_steps HG 1 (zB_iff.mpr (?_ : G m1 _ (31, [(0, .inl (.ref q0)), (1, .inl (.int v1_1)), (2, .inl (.int v1_2))], [.inl (.int v1_2), .inl (.ref (hr h q0 21))], h, 0, 0)))
          refine k_iald HG rfl K t2 rfl (fun _ => rfl) (?_ : G m1 _ (32, [(0, .inl (.ref q0)), (1, .inl (.int v1_1)), (2, .inl (.int v1_2))], [.inl (.int (hv h (hr h q0 21) v1_2.toNatClampNeg))], h, 0, 0))
          refine k_steps HG 1 (zB_iff.mpr (?_ : G m1 _ (33, [(0, .inl (.ref q0)), (1, .inl (.int v1_1)), (2, .inl (.int v1_2))], [.inl (.ref q0), .inl (.int (hv h (hr h q0 21) v1_2.toNatClampNeg))], h, 0, 0)))
          refine k_getR HG rfl K hq_q0 rfl (Nat.le_of_ble_eq_true rfl) rfl rfl (fun t3 => (?_ : G m1 _ (36, [(0, .inl (.ref q0)), (1, .inl (.int v1_1)), (2, .inl (.int v1_2))], [.inl (.ref (hr h q0 21)), .inl (.int (hv h (hr h q0 21) v1_2.toNatClampNeg))], h, 0, 0)))
          refine k_steps HG 1 (zB_iff.mpr (?_ : G m1 _ (37, [(0, .inl (.ref q0)), (1, .inl (.int v1_1)), (2, .inl (.int v1_2))], [.inl (.int v1_1), .inl (.ref (hr h q0 21)), .inl (.int (hv h (hr h q0 21) v1_2.toNatClampNeg))], h, 0, 0)))
          refine k_iald HG rfl K t3 rfl (fun _ => rfl) (?_ : G m1 _ (38, [(0, .inl (.ref q0)), (1, .inl (.int v1_1)), (2, .inl (.int v1_2))], [.inl (.int (hv h (hr h q0 21) v1_1.toNatClampNeg)), .inl (.int (hv h (hr h q0 21) v1_2.toNatClampNeg))], h, 0, 0))
          refine k_steps HG 1 (kb_le (x := (hv h (hr h q0 21) v1_2.toNatClampNeg)) (y := (hv h (hr h q0 21) v1_1.toNatClampNeg)) ?_ ?_)
          · show G m1 _ (45, [(0, .inl (.ref q0)), (1, .inl (.int v1_1)), (2, .inl (.int v1_2))], [], h, 0, 0)
            refine k_steps HG 4 (zB_iff.mpr (?_ : G m1 _ (18, [(2, .inl (.int (v1_2 + (1 : Int32)))), (1, .inl (.int v1_1)), (0, .inl (.ref q0))], [], h, 0, 0)))
            refine k_ext HG (L' := [(0, .inl (.ref q0)), (1, .inl (.int v1_1)), (2, .inl (.int (v1_2 + (1 : Int32))))]) rfl rfl ⟨rfl, rfl, rfl, trivial⟩ ?_
            exact ih1 _ _
          · show G m1 _ (41, [(0, .inl (.ref q0)), (1, .inl (.int v1_1)), (2, .inl (.int v1_2))], [], h, 0, 0)
            refine k_steps HG 5 (zB_iff.mpr (?_ : G m1 _ (18, [(2, .inl (.int (v1_2 + (1 : Int32)))), (1, .inl (.int v1_2)), (0, .inl (.ref q0))], [], h, 0, 0)))
            refine k_ext HG (L' := [(0, .inl (.ref q0)), (1, .inl (.int v1_2)), (2, .inl (.int (v1_2 + (1 : Int32))))]) rfl rfl ⟨rfl, rfl, rfl, trivial⟩ ?_
            exact ih1 _ _
    refine k_ext HG (L' := [(0, .inl (.ref q0)), (1, .inl (.int (0 : Int32))), (2, .inl (.int (1 : Int32)))]) rfl rfl ⟨rfl, rfl, rfl, trivial⟩ ?_
    exact lp1 m (Nat.le_refl _) _ _
  · show G m _ (7, [(0, .inl (.ref q0))], [], h, 0, 0)
    refine k_steps HG 2 (zB_iff.mpr (?_ : G m _ (10, [(0, .inl (.ref q0))], [.inl (.int (-5 : Int32)), .inl (.ref q0)], h, 0, 0)))
    refine k_cVIH HG (E' := ze_X5_refuse) (Or.inl ⟨rfl, rfl⟩) hsc rfl rfl rfl rfl rfl K rfl (fun hh => x_X5_refuse hsc K.1 hq_q0 hh) (fun y4 K4 => (?_ : G m _ (13, [(0, .inl (.ref q0))], [.inl (.int y4.1)], y4.2, 0, 0)))
    exact k_reti HG rfl rfl (fun e1 e2 => hR _ _ e1 e2 K4)
def W_X5_poorest : List (Nat × Nat) := [(30, 1000)]
noncomputable def B_X5_poorest_18 (h : zH) (c0 : Nat) (s : (Int32 × Int32)) : (Int32 × Int32) ⊕ (Int32 × zH) := (if s.2 < (hv h c0 23) then (if (hv h (hr h c0 24) s.2.toNatClampNeg) < (hv h (hr h c0 24) s.1.toNatClampNeg) then (Sum.inl (s.2, (s.2 + (1 : Int32)))) else (Sum.inl (s.1, (s.2 + (1 : Int32))))) else (Sum.inr (s.1, h)))
noncomputable def F_X5_poorest (h : zH) (q0 : Nat) : Int32 × zH := (if (hv h q0 23) = (0 : Int32) then (letf (F_X5_refuse h q0 (-5 : Int32)) (fun y4 => (y4.1, y4.2))) else (fx (B_X5_poorest_18 h q0) (0, []) ((0 : Int32), (1 : Int32))))
theorem x_X5_poorest {scr : List zV} {T : List Nat} {h : zH} {q0 : Nat} (hsc : cT scr) (K : hOK kty T h) (hq_q0 : T[q0]? = some 5) (hh : cH h) : xIH scr W_X5_poorest T T 211 [.inl (.ref q0)] h (F_X5_poorest h q0) := by
  refine xIH_intro (E := ze_X5_poorest) hsc rfl (cTb_ok rfl) hh (fun d r h' G HG Pf hR m => ?_)
  have K := kOK_refl (W := W_X5_poorest) K
  unfold F_X5_poorest
  show G m _ (0, [(0, .inl (.ref q0))], [], h, 0, 0)
  refine k_steps HG 1 (zB_iff.mpr (?_ : G m _ (1, [(0, .inl (.ref q0))], [.inl (.ref q0)], h, 0, 0)))
  refine k_getI HG rfl K hq_q0 rfl (Nat.le_of_ble_eq_true rfl) rfl (?_ : G m _ (4, [(0, .inl (.ref q0))], [.inl (.int (hv h q0 23))], h, 0, 0))
  refine k_steps HG 1 (kb_ne (x := (hv h q0 23)) (y := (0 : Int32)) ?_ ?_)
  · show G m _ (14, [(0, .inl (.ref q0))], [], h, 0, 0)
    refine k_steps HG 4 (zB_iff.mpr (?_ : G m _ (18, [(2, .inl (.int (1 : Int32))), (1, .inl (.int (0 : Int32))), (0, .inl (.ref q0))], [], h, 0, 0)))
    have lp1 : ∀ m1, m1 ≤ m → ∀ (v1_1 : Int32) (v1_2 : Int32), G m1 (Pf (fx (B_X5_poorest_18 h q0) (0, []) (v1_1, v1_2))) (18, [(0, .inl (.ref q0)), (1, .inl (.int v1_1)), (2, .inl (.int v1_2))], [], h, 0, 0) := by
      intro m1
      induction m1 with
      | zero =>
        intros
        exact k_zero HG
      | succ m1 ih1 =>
        intro le1 v1_1 v1_2
        have le1 := Nat.le_of_succ_le le1
        have ih1 := ih1 le1
        refine k_fx ?_
        rw [B_X5_poorest_18]
        refine k_first HG 1 (zB_iff.mpr (?_ : G m1 _ (20, [(0, .inl (.ref q0)), (1, .inl (.int v1_1)), (2, .inl (.int v1_2))], [.inl (.ref q0), .inl (.int v1_2)], h, 0, 0)))
        refine k_getI HG rfl K hq_q0 rfl (Nat.le_of_ble_eq_true rfl) rfl (?_ : G m1 _ (23, [(0, .inl (.ref q0)), (1, .inl (.int v1_1)), (2, .inl (.int v1_2))], [.inl (.int (hv h q0 23)), .inl (.int v1_2)], h, 0, 0))
        refine k_steps HG 1 (kb_ge (x := v1_2) (y := (hv h q0 23)) ?_ ?_)
        · show G m1 _ (53, [(0, .inl (.ref q0)), (1, .inl (.int v1_1)), (2, .inl (.int v1_2))], [], h, 0, 0)
          refine k_steps HG 1 (zB_iff.mpr (?_ : G m1 _ (54, [(0, .inl (.ref q0)), (1, .inl (.int v1_1)), (2, .inl (.int v1_2))], [.inl (.int v1_1)], h, 0, 0)))
          exact k_reti HG rfl rfl (fun e1 e2 => hR _ _ e1 e2 K)
        · show G m1 _ (26, [(0, .inl (.ref q0)), (1, .inl (.int v1_1)), (2, .inl (.int v1_2))], [], h, 0, 0)
          refine k_steps HG 1 (zB_iff.mpr (?_ : G m1 _ (27, [(0, .inl (.ref q0)), (1, .inl (.int v1_1)), (2, .inl (.int v1_2))], [.inl (.ref q0)], h, 0, 0)))
          refine k_getR HG rfl K hq_q0 rfl (Nat.le_of_ble_eq_true rfl) rfl rfl (fun t2 => (?_ : G m1 _ (30, [(0, .inl (.ref q0)), (1, .inl (.int v1_1)), (2, .inl (.int v1_2))], [.inl (.ref (hr h q0 24))], h, 0, 0)))
          refine k_steps HG 1 (zB_iff.mpr (?_ : G m1 _ (31, [(0, .inl (.ref q0)), (1, .inl (.int v1_1)), (2, .inl (.int v1_2))], [.inl (.int v1_2), .inl (.ref (hr h q0 24))], h, 0, 0)))
          refine k_iald HG rfl K t2 rfl (fun _ => rfl) (?_ : G m1 _ (32, [(0, .inl (.ref q0)), (1, .inl (.int v1_1)), (2, .inl (.int v1_2))], [.inl (.int (hv h (hr h q0 24) v1_2.toNatClampNeg))], h, 0, 0))
          refine k_steps HG 1 (zB_iff.mpr (?_ : G m1 _ (33, [(0, .inl (.ref q0)), (1, .inl (.int v1_1)), (2, .inl (.int v1_2))], [.inl (.ref q0), .inl (.int (hv h (hr h q0 24) v1_2.toNatClampNeg))], h, 0, 0)))
          refine k_getR HG rfl K hq_q0 rfl (Nat.le_of_ble_eq_true rfl) rfl rfl (fun t3 => (?_ : G m1 _ (36, [(0, .inl (.ref q0)), (1, .inl (.int v1_1)), (2, .inl (.int v1_2))], [.inl (.ref (hr h q0 24)), .inl (.int (hv h (hr h q0 24) v1_2.toNatClampNeg))], h, 0, 0)))
          refine k_steps HG 1 (zB_iff.mpr (?_ : G m1 _ (37, [(0, .inl (.ref q0)), (1, .inl (.int v1_1)), (2, .inl (.int v1_2))], [.inl (.int v1_1), .inl (.ref (hr h q0 24)), .inl (.int (hv h (hr h q0 24) v1_2.toNatClampNeg))], h, 0, 0)))
          refine k_iald HG rfl K t3 rfl (fun _ => rfl) (?_ : G m1 _ (38, [(0, .inl (.ref q0)), (1, .inl (.int v1_1)), (2, .inl (.int v1_2))], [.inl (.int (hv h (hr h q0 24) v1_1.toNatClampNeg)), .inl (.int (hv h (hr h q0 24) v1_2.toNatClampNeg))], h, 0, 0))
          refine k_steps HG 1 (kb_ge (x := (hv h (hr h q0 24) v1_2.toNatClampNeg)) (y := (hv h (hr h q0 24) v1_1.toNatClampNeg)) ?_ ?_)
          · show G m1 _ (45, [(0, .inl (.ref q0)), (1, .inl (.int v1_1)), (2, .inl (.int v1_2))], [], h, 0, 0)
            refine k_steps HG 4 (zB_iff.mpr (?_ : G m1 _ (18, [(2, .inl (.int (v1_2 + (1 : Int32)))), (1, .inl (.int v1_1)), (0, .inl (.ref q0))], [], h, 0, 0)))
            refine k_ext HG (L' := [(0, .inl (.ref q0)), (1, .inl (.int v1_1)), (2, .inl (.int (v1_2 + (1 : Int32))))]) rfl rfl ⟨rfl, rfl, rfl, trivial⟩ ?_
            exact ih1 _ _
          · show G m1 _ (41, [(0, .inl (.ref q0)), (1, .inl (.int v1_1)), (2, .inl (.int v1_2))], [], h, 0, 0)
            refine k_steps HG 5 (zB_iff.mpr (?_ : G m1 _ (18, [(2, .inl (.int (v1_2 + (1 : Int32)))), (1, .inl (.int v1_2)), (0, .inl (.ref q0))], [], h, 0, 0)))
            refine k_ext HG (L' := [(0, .inl (.ref q0)), (1, .inl (.int v1_2)), (2, .inl (.int (v1_2 + (1 : Int32))))]) rfl rfl ⟨rfl, rfl, rfl, trivial⟩ ?_
            exact ih1 _ _
    refine k_ext HG (L' := [(0, .inl (.ref q0)), (1, .inl (.int (0 : Int32))), (2, .inl (.int (1 : Int32)))]) rfl rfl ⟨rfl, rfl, rfl, trivial⟩ ?_
    exact lp1 m (Nat.le_refl _) _ _
  · show G m _ (7, [(0, .inl (.ref q0))], [], h, 0, 0)
    refine k_steps HG 2 (zB_iff.mpr (?_ : G m _ (10, [(0, .inl (.ref q0))], [.inl (.int (-5 : Int32)), .inl (.ref q0)], h, 0, 0)))
    refine k_cVIH HG (E' := ze_X5_refuse) (Or.inl ⟨rfl, rfl⟩) hsc rfl rfl rfl rfl rfl K rfl (fun hh => x_X5_refuse hsc K.1 hq_q0 hh) (fun y4 K4 => (?_ : G m _ (13, [(0, .inl (.ref q0))], [.inl (.int y4.1)], y4.2, 0, 0)))
    exact k_reti HG rfl rfl (fun e1 e2 => hR _ _ e1 e2 K4)
def W_X5_price : List (Nat × Nat) := [(5, 11), (5, 12), (30, 1000)]
noncomputable def J_X5_price_j32 (h : zH) (c0 : Nat) (c1 : Int32) (c2 : Int32) : Int32 × zH := (letf (F_X5_refuse h c0 (-2 : Int32)) (fun y8201 => (y8201.1, y8201.2)))
theorem w_X5_price_j32 {scr : List zV} {T0 T : List Nat} {d m : Nat} {r : Option zV} {h' h h0 : zH} {G : Nat → Prop → zS → Prop} {Pf : Int32 × zH → Prop} {c0 : Nat} {c1 : Int32} {c2 : Int32} (HG : G = GL ze_X5_price scr (zEc ze_X5_price) (zEs ze_X5_price) (zD zprog scr d) r h') (hsc : cT scr) (hR : ∀ y hh, some (.inl (.int y)) = r → hh = h' → kOK W_X5_price T0 T h0 hh → Pf (y, hh)) (K : kOK W_X5_price T0 T h0 h) (hq_c0 : T[c0]? = some 5) : G m (Pf (J_X5_price_j32 h c0 c1 c2)) (32, [(0, .inl (.ref c0)), (1, .inl (.int c1)), (2, .inl (.int c2))], [], h, 0, 0) := by
  unfold J_X5_price_j32
  refine k_steps HG 2 (zB_iff.mpr (?_ : G m _ (35, [(0, .inl (.ref c0)), (1, .inl (.int c1)), (2, .inl (.int c2))], [.inl (.int (-2 : Int32)), .inl (.ref c0)], h, 0, 0)))
  refine k_cVIH HG (E' := ze_X5_refuse) (Or.inl ⟨rfl, rfl⟩) hsc rfl rfl rfl rfl rfl K rfl (fun hh => x_X5_refuse hsc K.1 hq_c0 hh) (fun y8201 K8201 => (?_ : G m _ (38, [(0, .inl (.ref c0)), (1, .inl (.int c1)), (2, .inl (.int c2))], [.inl (.int y8201.1)], y8201.2, 0, 0)))
  exact k_reti HG rfl rfl (fun e1 e2 => hR _ _ e1 e2 K8201)
noncomputable def J_X5_price_j84 (h : zH) (c0 : Nat) (c1 : Int32) (c2 : Int32) (c3 : Int32) (s0 : Int32) (s1 : Nat) : Int32 × zH := (letf (hput h s1 12 (.inl (.int s0))) (fun h13401 => (c3, h13401)))
theorem w_X5_price_j84 {scr : List zV} {T0 T : List Nat} {d m : Nat} {r : Option zV} {h' h h0 : zH} {G : Nat → Prop → zS → Prop} {Pf : Int32 × zH → Prop} {c0 : Nat} {c1 : Int32} {c2 : Int32} {c3 : Int32} {s0 : Int32} {s1 : Nat} (HG : G = GL ze_X5_price scr (zEc ze_X5_price) (zEs ze_X5_price) (zD zprog scr d) r h') (hsc : cT scr) (hR : ∀ y hh, some (.inl (.int y)) = r → hh = h' → kOK W_X5_price T0 T h0 hh → Pf (y, hh)) (K : kOK W_X5_price T0 T h0 h) (hq_c0 : T[c0]? = some 5) (hq_s1 : T[s1]? = some 5) : G m (Pf (J_X5_price_j84 h c0 c1 c2 c3 s0 s1)) (84, [(0, .inl (.ref c0)), (1, .inl (.int c1)), (2, .inl (.int c2)), (3, .inl (.int c3))], [.inl (.int s0), .inl (.ref s1)], h, 0, 0) := by
  unfold J_X5_price_j84
  refine k_putI HG rfl K hq_s1 rfl rfl rfl (fun h13401 K13401 => (?_ : G m _ (87, [(0, .inl (.ref c0)), (1, .inl (.int c1)), (2, .inl (.int c2)), (3, .inl (.int c3))], [], h13401, 0, 0)))
  refine k_steps HG 1 (zB_iff.mpr (?_ : G m _ (88, [(0, .inl (.ref c0)), (1, .inl (.int c1)), (2, .inl (.int c2)), (3, .inl (.int c3))], [.inl (.int c3)], h13401, 0, 0)))
  exact k_reti HG rfl rfl (fun e1 e2 => hR _ _ e1 e2 K13401)
noncomputable def J_X5_price_j68 (h : zH) (c0 : Nat) (c1 : Int32) (c2 : Int32) (c3 : Int32) (s0 : Int32) (s1 : Nat) : Int32 × zH := (letf (hput h s1 11 (.inl (.int s0))) (fun h11801 => (if c1 = (0 : Int32) then (J_X5_price_j84 h11801 c0 c1 c2 c3 (hv h11801 c0 12) c0) else (J_X5_price_j84 h11801 c0 c1 c2 c3 c2 c0))))
theorem w_X5_price_j68 {scr : List zV} {T0 T : List Nat} {d m : Nat} {r : Option zV} {h' h h0 : zH} {G : Nat → Prop → zS → Prop} {Pf : Int32 × zH → Prop} {c0 : Nat} {c1 : Int32} {c2 : Int32} {c3 : Int32} {s0 : Int32} {s1 : Nat} (HG : G = GL ze_X5_price scr (zEc ze_X5_price) (zEs ze_X5_price) (zD zprog scr d) r h') (hsc : cT scr) (hR : ∀ y hh, some (.inl (.int y)) = r → hh = h' → kOK W_X5_price T0 T h0 hh → Pf (y, hh)) (K : kOK W_X5_price T0 T h0 h) (hq_c0 : T[c0]? = some 5) (hq_s1 : T[s1]? = some 5) : G m (Pf (J_X5_price_j68 h c0 c1 c2 c3 s0 s1)) (68, [(0, .inl (.ref c0)), (1, .inl (.int c1)), (2, .inl (.int c2)), (3, .inl (.int c3))], [.inl (.int s0), .inl (.ref s1)], h, 0, 0) := by
  unfold J_X5_price_j68
  refine k_putI HG rfl K hq_s1 rfl rfl rfl (fun h11801 K11801 => (?_ : G m _ (71, [(0, .inl (.ref c0)), (1, .inl (.int c1)), (2, .inl (.int c2)), (3, .inl (.int c3))], [], h11801, 0, 0)))
  refine k_steps HG 3 (kb_ne (x := c1) (y := (0 : Int32)) ?_ ?_)
  · show G m _ (83, [(0, .inl (.ref c0)), (1, .inl (.int c1)), (2, .inl (.int c2)), (3, .inl (.int c3))], [.inl (.ref c0)], h11801, 0, 0)
    refine k_steps HG 1 (zB_iff.mpr (?_ : G m _ (84, [(0, .inl (.ref c0)), (1, .inl (.int c1)), (2, .inl (.int c2)), (3, .inl (.int c3))], [.inl (.int c2), .inl (.ref c0)], h11801, 0, 0)))
    exact w_X5_price_j84 HG hsc hR K11801 hq_c0 hq_c0
  · show G m _ (76, [(0, .inl (.ref c0)), (1, .inl (.int c1)), (2, .inl (.int c2)), (3, .inl (.int c3))], [.inl (.ref c0)], h11801, 0, 0)
    refine k_steps HG 1 (zB_iff.mpr (?_ : G m _ (77, [(0, .inl (.ref c0)), (1, .inl (.int c1)), (2, .inl (.int c2)), (3, .inl (.int c3))], [.inl (.ref c0), .inl (.ref c0)], h11801, 0, 0)))
    refine k_getI HG rfl K11801 hq_c0 rfl (Nat.le_of_ble_eq_true rfl) rfl (?_ : G m _ (80, [(0, .inl (.ref c0)), (1, .inl (.int c1)), (2, .inl (.int c2)), (3, .inl (.int c3))], [.inl (.int (hv h11801 c0 12)), .inl (.ref c0)], h11801, 0, 0))
    refine k_steps HG 1 (zB_iff.mpr (?_ : G m _ (84, [(0, .inl (.ref c0)), (1, .inl (.int c1)), (2, .inl (.int c2)), (3, .inl (.int c3))], [.inl (.int (hv h11801 c0 12)), .inl (.ref c0)], h11801, 0, 0)))
    exact w_X5_price_j84 HG hsc hR K11801 hq_c0 hq_c0
noncomputable def J_X5_price_j54 (h : zH) (c0 : Nat) (c1 : Int32) (c2 : Int32) (s0 : Int32) : Int32 × zH := (if c1 = (0 : Int32) then (J_X5_price_j68 h c0 c1 c2 s0 c2 c0) else (J_X5_price_j68 h c0 c1 c2 s0 (hv h c0 11) c0))
theorem w_X5_price_j54 {scr : List zV} {T0 T : List Nat} {d m : Nat} {r : Option zV} {h' h h0 : zH} {G : Nat → Prop → zS → Prop} {Pf : Int32 × zH → Prop} {c0 : Nat} {c1 : Int32} {c2 : Int32} {s0 : Int32} (HG : G = GL ze_X5_price scr (zEc ze_X5_price) (zEs ze_X5_price) (zD zprog scr d) r h') (hsc : cT scr) (hR : ∀ y hh, some (.inl (.int y)) = r → hh = h' → kOK W_X5_price T0 T h0 hh → Pf (y, hh)) (K : kOK W_X5_price T0 T h0 h) (hq_c0 : T[c0]? = some 5) : G m (Pf (J_X5_price_j54 h c0 c1 c2 s0)) (54, [(0, .inl (.ref c0)), (1, .inl (.int c1)), (2, .inl (.int c2))], [.inl (.int s0)], h, 0, 0) := by
  unfold J_X5_price_j54
  refine k_steps HG 4 (kb_ne (x := c1) (y := (0 : Int32)) ?_ ?_)
  · show G m _ (64, [(3, .inl (.int s0)), (0, .inl (.ref c0)), (1, .inl (.int c1)), (2, .inl (.int c2))], [.inl (.ref c0)], h, 0, 0)
    refine k_steps HG 1 (zB_iff.mpr (?_ : G m _ (65, [(3, .inl (.int s0)), (0, .inl (.ref c0)), (1, .inl (.int c1)), (2, .inl (.int c2))], [.inl (.ref c0), .inl (.ref c0)], h, 0, 0)))
    refine k_getI HG rfl K hq_c0 rfl (Nat.le_of_ble_eq_true rfl) rfl (?_ : G m _ (68, [(3, .inl (.int s0)), (0, .inl (.ref c0)), (1, .inl (.int c1)), (2, .inl (.int c2))], [.inl (.int (hv h c0 11)), .inl (.ref c0)], h, 0, 0))
    refine k_ext HG (L' := [(0, .inl (.ref c0)), (1, .inl (.int c1)), (2, .inl (.int c2)), (3, .inl (.int s0))]) rfl rfl ⟨rfl, rfl, rfl, rfl, trivial⟩ ?_
    exact w_X5_price_j68 HG hsc hR K hq_c0 hq_c0
  · show G m _ (60, [(3, .inl (.int s0)), (0, .inl (.ref c0)), (1, .inl (.int c1)), (2, .inl (.int c2))], [.inl (.ref c0)], h, 0, 0)
    refine k_steps HG 2 (zB_iff.mpr (?_ : G m _ (68, [(3, .inl (.int s0)), (0, .inl (.ref c0)), (1, .inl (.int c1)), (2, .inl (.int c2))], [.inl (.int c2), .inl (.ref c0)], h, 0, 0)))
    refine k_ext HG (L' := [(0, .inl (.ref c0)), (1, .inl (.int c1)), (2, .inl (.int c2)), (3, .inl (.int s0))]) rfl rfl ⟨rfl, rfl, rfl, rfl, trivial⟩ ?_
    exact w_X5_price_j68 HG hsc hR K hq_c0 hq_c0
noncomputable def J_X5_price_j26 (h : zH) (c0 : Nat) (c1 : Int32) (c2 : Int32) (s0 : Int64) (s1 : Int64) (s2 : Int64) : Int32 × zH := (letf (F_X5_in s2 s1 s0) (fun y7601 => (if y7601 = (0 : Int32) then (J_X5_price_j32 h c0 c1 c2) else (if c1 = (0 : Int32) then (J_X5_price_j54 h c0 c1 c2 (hv h c0 11)) else (J_X5_price_j54 h c0 c1 c2 (hv h c0 12))))))
theorem w_X5_price_j26 {scr : List zV} {T0 T : List Nat} {d m : Nat} {r : Option zV} {h' h h0 : zH} {G : Nat → Prop → zS → Prop} {Pf : Int32 × zH → Prop} {c0 : Nat} {c1 : Int32} {c2 : Int32} {s0 : Int64} {s1 : Int64} {s2 : Int64} (HG : G = GL ze_X5_price scr (zEc ze_X5_price) (zEs ze_X5_price) (zD zprog scr d) r h') (hsc : cT scr) (hR : ∀ y hh, some (.inl (.int y)) = r → hh = h' → kOK W_X5_price T0 T h0 hh → Pf (y, hh)) (K : kOK W_X5_price T0 T h0 h) (hq_c0 : T[c0]? = some 5) : G m (Pf (J_X5_price_j26 h c0 c1 c2 s0 s1 s2)) (26, [(0, .inl (.ref c0)), (1, .inl (.int c1)), (2, .inl (.int c2))], [.inl (.long s0), .inl (.long s1), .inl (.long s2)], h, 0, 0) := by
  unfold J_X5_price_j26
  refine k_cSI HG (E' := ze_X5_in) (Or.inl rfl) hsc rfl rfl rfl rfl (fun hh => x_X5_in hsc hh) (fun y7601 => (?_ : G m _ (29, [(0, .inl (.ref c0)), (1, .inl (.int c1)), (2, .inl (.int c2))], [.inl (.int y7601)], h, 0, 0)))
  refine k_steps HG 1 (kb_ne (x := y7601) (y := (0 : Int32)) ?_ ?_)
  · show G m _ (39, [(0, .inl (.ref c0)), (1, .inl (.int c1)), (2, .inl (.int c2))], [], h, 0, 0)
    refine k_steps HG 2 (kb_ne (x := c1) (y := (0 : Int32)) ?_ ?_)
    · show G m _ (50, [(0, .inl (.ref c0)), (1, .inl (.int c1)), (2, .inl (.int c2))], [], h, 0, 0)
      refine k_steps HG 1 (zB_iff.mpr (?_ : G m _ (51, [(0, .inl (.ref c0)), (1, .inl (.int c1)), (2, .inl (.int c2))], [.inl (.ref c0)], h, 0, 0)))
      refine k_getI HG rfl K hq_c0 rfl (Nat.le_of_ble_eq_true rfl) rfl (?_ : G m _ (54, [(0, .inl (.ref c0)), (1, .inl (.int c1)), (2, .inl (.int c2))], [.inl (.int (hv h c0 12))], h, 0, 0))
      exact w_X5_price_j54 HG hsc hR K hq_c0
    · show G m _ (43, [(0, .inl (.ref c0)), (1, .inl (.int c1)), (2, .inl (.int c2))], [], h, 0, 0)
      refine k_steps HG 1 (zB_iff.mpr (?_ : G m _ (44, [(0, .inl (.ref c0)), (1, .inl (.int c1)), (2, .inl (.int c2))], [.inl (.ref c0)], h, 0, 0)))
      refine k_getI HG rfl K hq_c0 rfl (Nat.le_of_ble_eq_true rfl) rfl (?_ : G m _ (47, [(0, .inl (.ref c0)), (1, .inl (.int c1)), (2, .inl (.int c2))], [.inl (.int (hv h c0 11))], h, 0, 0))
      refine k_steps HG 1 (zB_iff.mpr (?_ : G m _ (54, [(0, .inl (.ref c0)), (1, .inl (.int c1)), (2, .inl (.int c2))], [.inl (.int (hv h c0 11))], h, 0, 0)))
      exact w_X5_price_j54 HG hsc hR K hq_c0
  · show G m _ (32, [(0, .inl (.ref c0)), (1, .inl (.int c1)), (2, .inl (.int c2))], [], h, 0, 0)
    exact w_X5_price_j32 HG hsc hR K hq_c0
noncomputable def F_X5_price (h : zH) (q0 : Nat) (a1 : Int32) (a2 : Int32) : Int32 × zH := (letf (F_X5_in (Int32.toInt64 a1) (0 : Int64) (1 : Int64)) (fun y1 => (if y1 = (0 : Int32) then (J_X5_price_j32 h q0 a1 a2) else (if a1 = (0 : Int32) then (J_X5_price_j26 h q0 a1 a2 (99 : Int64) (1 : Int64) (Int32.toInt64 a2)) else (J_X5_price_j26 h q0 a1 a2 (495 : Int64) (1 : Int64) (Int32.toInt64 a2))))))
theorem x_X5_price {scr : List zV} {T : List Nat} {h : zH} {q0 : Nat} {a1 : Int32} {a2 : Int32} (hsc : cT scr) (K : hOK kty T h) (hq_q0 : T[q0]? = some 5) (hh : cH h) : xIH scr W_X5_price T T 212 [.inl (.ref q0), .inl (.int a1), .inl (.int a2)] h (F_X5_price h q0 a1 a2) := by
  refine xIH_intro (E := ze_X5_price) hsc rfl (cTb_ok rfl) hh (fun d r h' G HG Pf hR m => ?_)
  have K := kOK_refl (W := W_X5_price) K
  unfold F_X5_price
  show G m _ (0, [(0, .inl (.ref q0)), (1, .inl (.int a1)), (2, .inl (.int a2))], [], h, 0, 0)
  refine k_steps HG 4 (zB_iff.mpr (?_ : G m _ (4, [(0, .inl (.ref q0)), (1, .inl (.int a1)), (2, .inl (.int a2))], [.inl (.long (1 : Int64)), .inl (.long (0 : Int64)), .inl (.long (Int32.toInt64 a1))], h, 0, 0)))
  refine k_cSI HG (E' := ze_X5_in) (Or.inl rfl) hsc rfl rfl rfl rfl (fun hh => x_X5_in hsc hh) (fun y1 => (?_ : G m _ (7, [(0, .inl (.ref q0)), (1, .inl (.int a1)), (2, .inl (.int a2))], [.inl (.int y1)], h, 0, 0)))
  refine k_steps HG 1 (kb_eq (x := y1) (y := (0 : Int32)) ?_ ?_)
  · show G m _ (32, [(0, .inl (.ref q0)), (1, .inl (.int a1)), (2, .inl (.int a2))], [], h, 0, 0)
    exact w_X5_price_j32 HG hsc hR K hq_q0
  · show G m _ (10, [(0, .inl (.ref q0)), (1, .inl (.int a1)), (2, .inl (.int a2))], [], h, 0, 0)
    refine k_steps HG 5 (kb_ne (x := a1) (y := (0 : Int32)) ?_ ?_)
    · show G m _ (23, [(0, .inl (.ref q0)), (1, .inl (.int a1)), (2, .inl (.int a2))], [.inl (.long (1 : Int64)), .inl (.long (Int32.toInt64 a2))], h, 0, 0)
      refine k_steps HG 1 (zB_iff.mpr (?_ : G m _ (26, [(0, .inl (.ref q0)), (1, .inl (.int a1)), (2, .inl (.int a2))], [.inl (.long (495 : Int64)), .inl (.long (1 : Int64)), .inl (.long (Int32.toInt64 a2))], h, 0, 0)))
      exact w_X5_price_j26 HG hsc hR K hq_q0
    · show G m _ (17, [(0, .inl (.ref q0)), (1, .inl (.int a1)), (2, .inl (.int a2))], [.inl (.long (1 : Int64)), .inl (.long (Int32.toInt64 a2))], h, 0, 0)
      refine k_steps HG 2 (zB_iff.mpr (?_ : G m _ (26, [(0, .inl (.ref q0)), (1, .inl (.int a1)), (2, .inl (.int a2))], [.inl (.long (99 : Int64)), .inl (.long (1 : Int64)), .inl (.long (Int32.toInt64 a2))], h, 0, 0)))
      exact w_X5_price_j26 HG hsc hR K hq_q0
