def W_X1_become : List (Nat × Nat) := [(1, 0), (1, 1), (1, 2), (1, 3), (1, 4), (1, 5), (1, 6), (1, 7), (1, 8), (1, 14), (11, 1000), (12, 1000), (13, 1000), (14, 1000), (15, 1000), (16, 1000), (17, 1000)]
noncomputable def F_X1_become (h : zH) (q0 : Nat) (q1 : Nat) : zH := (letf (hput h q0 0 (.inl (.int (hv h q1 0)))) (fun h1 => (letf (hput h1 q0 1 (.inl (.int (hv h1 q1 1)))) (fun h2 => (letf (hput h2 q0 2 (.inl (.int (hv h2 q1 2)))) (fun h3 => (letf (hput h3 q0 3 (.inl (.int (hv h3 q1 3)))) (fun h4 => (letf (hput h4 q0 4 (.inl (.int (hv h4 q1 4)))) (fun h5 => (letf (hput h5 q0 5 (.inl (.int (hv h5 q1 5)))) (fun h6 => (letf (hput h6 q0 6 (.inl (.int (hv h6 q1 6)))) (fun h7 => (letf (hput h7 q0 7 (.inl (.long (hJ h7 q1 7)))) (fun h8 => (letf (hput h8 q0 8 (.inl (.int (hv h8 q1 8)))) (fun h9 => (letf (hcpy h9 (hr h9 q1 9) (0 : Int32).toNatClampNeg (hr h9 q0 9) (0 : Int32).toNatClampNeg (8 : Int32).toNatClampNeg) (fun h12 => (letf (hcpy h12 (hr h12 q1 10) (0 : Int32).toNatClampNeg (hr h12 q0 10) (0 : Int32).toNatClampNeg (8 : Int32).toNatClampNeg) (fun h15 => (letf (hcpy h15 (hr h15 q1 11) (0 : Int32).toNatClampNeg (hr h15 q0 11) (0 : Int32).toNatClampNeg (8 : Int32).toNatClampNeg) (fun h18 => (letf (hcpy h18 (hr h18 q1 12) (0 : Int32).toNatClampNeg (hr h18 q0 12) (0 : Int32).toNatClampNeg (8 : Int32).toNatClampNeg) (fun h21 => (letf (hcpy h21 (hr h21 q1 13) (0 : Int32).toNatClampNeg (hr h21 q0 13) (0 : Int32).toNatClampNeg (8 : Int32).toNatClampNeg) (fun h24 => (letf (hput h24 q0 14 (.inl (.int (hv h24 q1 14)))) (fun h25 => (letf (hcpy h25 (hr h25 q1 15) (0 : Int32).toNatClampNeg (hr h25 q0 15) (0 : Int32).toNatClampNeg (4 : Int32).toNatClampNeg) (fun h28 => (letf (hcpy h28 (hr h28 q1 16) (0 : Int32).toNatClampNeg (hr h28 q0 16) (0 : Int32).toNatClampNeg (32 : Int32).toNatClampNeg) (fun h31 => h31))))))))))))))))))))))))))))))))))
theorem x_X1_become {scr : List zV} {T : List Nat} {h : zH} {q0 : Nat} {q1 : Nat} (hsc : cT scr) (K : hOK kty T h) (hq_q0 : T[q0]? = some 1) (hq_q1 : T[q1]? = some 1) (hh : cH h) : xH scr W_X1_become T T 32 [.inl (.ref q0), .inl (.ref q1)] h (F_X1_become h q0 q1) := by
  refine xH_intro (E := ze_X1_become) hsc rfl (cTb_ok rfl) hh (fun d r h' G HG Pf hR m => ?_)
  have K := kOK_refl (W := W_X1_become) K
  unfold F_X1_become
  show G m _ (0, [(0, .inl (.ref q0)), (1, .inl (.ref q1))], [], h, 0, 0)
  refine k_steps HG 2 (zB_iff.mpr (?_ : G m _ (2, [(0, .inl (.ref q0)), (1, .inl (.ref q1))], [.inl (.ref q1), .inl (.ref q0)], h, 0, 0)))
  refine k_getI HG rfl K hq_q1 rfl (Nat.le_of_ble_eq_true rfl) rfl (?_ : G m _ (5, [(0, .inl (.ref q0)), (1, .inl (.ref q1))], [.inl (.int (hv h q1 0)), .inl (.ref q0)], h, 0, 0))
  refine k_putI HG rfl K hq_q0 rfl rfl rfl (fun h1 K1 => (?_ : G m _ (8, [(0, .inl (.ref q0)), (1, .inl (.ref q1))], [], h1, 0, 0)))
  refine k_steps HG 2 (zB_iff.mpr (?_ : G m _ (10, [(0, .inl (.ref q0)), (1, .inl (.ref q1))], [.inl (.ref q1), .inl (.ref q0)], h1, 0, 0)))
  refine k_getI HG rfl K1 hq_q1 rfl (Nat.le_of_ble_eq_true rfl) rfl (?_ : G m _ (13, [(0, .inl (.ref q0)), (1, .inl (.ref q1))], [.inl (.int (hv h1 q1 1)), .inl (.ref q0)], h1, 0, 0))
  refine k_putI HG rfl K1 hq_q0 rfl rfl rfl (fun h2 K2 => (?_ : G m _ (16, [(0, .inl (.ref q0)), (1, .inl (.ref q1))], [], h2, 0, 0)))
  refine k_steps HG 2 (zB_iff.mpr (?_ : G m _ (18, [(0, .inl (.ref q0)), (1, .inl (.ref q1))], [.inl (.ref q1), .inl (.ref q0)], h2, 0, 0)))
  refine k_getI HG rfl K2 hq_q1 rfl (Nat.le_of_ble_eq_true rfl) rfl (?_ : G m _ (21, [(0, .inl (.ref q0)), (1, .inl (.ref q1))], [.inl (.int (hv h2 q1 2)), .inl (.ref q0)], h2, 0, 0))
  refine k_putI HG rfl K2 hq_q0 rfl rfl rfl (fun h3 K3 => (?_ : G m _ (24, [(0, .inl (.ref q0)), (1, .inl (.ref q1))], [], h3, 0, 0)))
  refine k_steps HG 2 (zB_iff.mpr (?_ : G m _ (26, [(0, .inl (.ref q0)), (1, .inl (.ref q1))], [.inl (.ref q1), .inl (.ref q0)], h3, 0, 0)))
  refine k_getI HG rfl K3 hq_q1 rfl (Nat.le_of_ble_eq_true rfl) rfl (?_ : G m _ (29, [(0, .inl (.ref q0)), (1, .inl (.ref q1))], [.inl (.int (hv h3 q1 3)), .inl (.ref q0)], h3, 0, 0))
  refine k_putI HG rfl K3 hq_q0 rfl rfl rfl (fun h4 K4 => (?_ : G m _ (32, [(0, .inl (.ref q0)), (1, .inl (.ref q1))], [], h4, 0, 0)))
  refine k_steps HG 2 (zB_iff.mpr (?_ : G m _ (34, [(0, .inl (.ref q0)), (1, .inl (.ref q1))], [.inl (.ref q1), .inl (.ref q0)], h4, 0, 0)))
  refine k_getI HG rfl K4 hq_q1 rfl (Nat.le_of_ble_eq_true rfl) rfl (?_ : G m _ (37, [(0, .inl (.ref q0)), (1, .inl (.ref q1))], [.inl (.int (hv h4 q1 4)), .inl (.ref q0)], h4, 0, 0))
  refine k_putI HG rfl K4 hq_q0 rfl rfl rfl (fun h5 K5 => (?_ : G m _ (40, [(0, .inl (.ref q0)), (1, .inl (.ref q1))], [], h5, 0, 0)))
  refine k_steps HG 2 (zB_iff.mpr (?_ : G m _ (42, [(0, .inl (.ref q0)), (1, .inl (.ref q1))], [.inl (.ref q1), .inl (.ref q0)], h5, 0, 0)))
  refine k_getI HG rfl K5 hq_q1 rfl (Nat.le_of_ble_eq_true rfl) rfl (?_ : G m _ (45, [(0, .inl (.ref q0)), (1, .inl (.ref q1))], [.inl (.int (hv h5 q1 5)), .inl (.ref q0)], h5, 0, 0))
  refine k_putI HG rfl K5 hq_q0 rfl rfl rfl (fun h6 K6 => (?_ : G m _ (48, [(0, .inl (.ref q0)), (1, .inl (.ref q1))], [], h6, 0, 0)))
  refine k_steps HG 2 (zB_iff.mpr (?_ : G m _ (50, [(0, .inl (.ref q0)), (1, .inl (.ref q1))], [.inl (.ref q1), .inl (.ref q0)], h6, 0, 0)))
  refine k_getI HG rfl K6 hq_q1 rfl (Nat.le_of_ble_eq_true rfl) rfl (?_ : G m _ (53, [(0, .inl (.ref q0)), (1, .inl (.ref q1))], [.inl (.int (hv h6 q1 6)), .inl (.ref q0)], h6, 0, 0))
  refine k_putI HG rfl K6 hq_q0 rfl rfl rfl (fun h7 K7 => (?_ : G m _ (56, [(0, .inl (.ref q0)), (1, .inl (.ref q1))], [], h7, 0, 0)))
  refine k_steps HG 2 (zB_iff.mpr (?_ : G m _ (58, [(0, .inl (.ref q0)), (1, .inl (.ref q1))], [.inl (.ref q1), .inl (.ref q0)], h7, 0, 0)))
  refine k_getJ HG rfl K7 hq_q1 rfl (Nat.le_of_ble_eq_true rfl) rfl (?_ : G m _ (61, [(0, .inl (.ref q0)), (1, .inl (.ref q1))], [.inl (.long (hJ h7 q1 7)), .inl (.ref q0)], h7, 0, 0))
  refine k_putJ HG rfl K7 hq_q0 rfl rfl rfl (fun h8 K8 => (?_ : G m _ (64, [(0, .inl (.ref q0)), (1, .inl (.ref q1))], [], h8, 0, 0)))
  refine k_steps HG 2 (zB_iff.mpr (?_ : G m _ (66, [(0, .inl (.ref q0)), (1, .inl (.ref q1))], [.inl (.ref q1), .inl (.ref q0)], h8, 0, 0)))
  refine k_getI HG rfl K8 hq_q1 rfl (Nat.le_of_ble_eq_true rfl) rfl (?_ : G m _ (69, [(0, .inl (.ref q0)), (1, .inl (.ref q1))], [.inl (.int (hv h8 q1 8)), .inl (.ref q0)], h8, 0, 0))
  refine k_putI HG rfl K8 hq_q0 rfl rfl rfl (fun h9 K9 => (?_ : G m _ (72, [(0, .inl (.ref q0)), (1, .inl (.ref q1))], [], h9, 0, 0)))
  refine k_steps HG 1 (zB_iff.mpr (?_ : G m _ (73, [(0, .inl (.ref q0)), (1, .inl (.ref q1))], [.inl (.ref q1)], h9, 0, 0)))
  refine k_getR HG rfl K9 hq_q1 rfl (Nat.le_of_ble_eq_true rfl) rfl rfl (fun t10 => (?_ : G m _ (76, [(0, .inl (.ref q0)), (1, .inl (.ref q1))], [.inl (.ref (hr h9 q1 9))], h9, 0, 0)))
  refine k_steps HG 2 (zB_iff.mpr (?_ : G m _ (78, [(0, .inl (.ref q0)), (1, .inl (.ref q1))], [.inl (.ref q0), .inl (.int (0 : Int32)), .inl (.ref (hr h9 q1 9))], h9, 0, 0)))
  refine k_getR HG rfl K9 hq_q0 rfl (Nat.le_of_ble_eq_true rfl) rfl rfl (fun t11 => (?_ : G m _ (81, [(0, .inl (.ref q0)), (1, .inl (.ref q1))], [.inl (.ref (hr h9 q0 9)), .inl (.int (0 : Int32)), .inl (.ref (hr h9 q1 9))], h9, 0, 0)))
  refine k_steps HG 2 (zB_iff.mpr (?_ : G m _ (84, [(0, .inl (.ref q0)), (1, .inl (.ref q1))], [.inl (.int (8 : Int32)), .inl (.int (0 : Int32)), .inl (.ref (hr h9 q0 9)), .inl (.int (0 : Int32)), .inl (.ref (hr h9 q1 9))], h9, 0, 0)))
  refine k_acp HG rfl K9 t10 t11 rfl rfl (fun _ => rfl) (fun _ => rfl) rfl (fun h12 K12 => (?_ : G m _ (87, [(0, .inl (.ref q0)), (1, .inl (.ref q1))], [], h12, 0, 0)))
  refine k_steps HG 1 (zB_iff.mpr (?_ : G m _ (88, [(0, .inl (.ref q0)), (1, .inl (.ref q1))], [.inl (.ref q1)], h12, 0, 0)))
  refine k_getR HG rfl K12 hq_q1 rfl (Nat.le_of_ble_eq_true rfl) rfl rfl (fun t13 => (?_ : G m _ (91, [(0, .inl (.ref q0)), (1, .inl (.ref q1))], [.inl (.ref (hr h12 q1 10))], h12, 0, 0)))
  refine k_steps HG 2 (zB_iff.mpr (?_ : G m _ (93, [(0, .inl (.ref q0)), (1, .inl (.ref q1))], [.inl (.ref q0), .inl (.int (0 : Int32)), .inl (.ref (hr h12 q1 10))], h12, 0, 0)))
  refine k_getR HG rfl K12 hq_q0 rfl (Nat.le_of_ble_eq_true rfl) rfl rfl (fun t14 => (?_ : G m _ (96, [(0, .inl (.ref q0)), (1, .inl (.ref q1))], [.inl (.ref (hr h12 q0 10)), .inl (.int (0 : Int32)), .inl (.ref (hr h12 q1 10))], h12, 0, 0)))
  refine k_steps HG 2 (zB_iff.mpr (?_ : G m _ (99, [(0, .inl (.ref q0)), (1, .inl (.ref q1))], [.inl (.int (8 : Int32)), .inl (.int (0 : Int32)), .inl (.ref (hr h12 q0 10)), .inl (.int (0 : Int32)), .inl (.ref (hr h12 q1 10))], h12, 0, 0)))
  refine k_acp HG rfl K12 t13 t14 rfl rfl (fun _ => rfl) (fun _ => rfl) rfl (fun h15 K15 => (?_ : G m _ (102, [(0, .inl (.ref q0)), (1, .inl (.ref q1))], [], h15, 0, 0)))
  refine k_steps HG 1 (zB_iff.mpr (?_ : G m _ (103, [(0, .inl (.ref q0)), (1, .inl (.ref q1))], [.inl (.ref q1)], h15, 0, 0)))
  refine k_getR HG rfl K15 hq_q1 rfl (Nat.le_of_ble_eq_true rfl) rfl rfl (fun t16 => (?_ : G m _ (106, [(0, .inl (.ref q0)), (1, .inl (.ref q1))], [.inl (.ref (hr h15 q1 11))], h15, 0, 0)))
  refine k_steps HG 2 (zB_iff.mpr (?_ : G m _ (108, [(0, .inl (.ref q0)), (1, .inl (.ref q1))], [.inl (.ref q0), .inl (.int (0 : Int32)), .inl (.ref (hr h15 q1 11))], h15, 0, 0)))
  refine k_getR HG rfl K15 hq_q0 rfl (Nat.le_of_ble_eq_true rfl) rfl rfl (fun t17 => (?_ : G m _ (111, [(0, .inl (.ref q0)), (1, .inl (.ref q1))], [.inl (.ref (hr h15 q0 11)), .inl (.int (0 : Int32)), .inl (.ref (hr h15 q1 11))], h15, 0, 0)))
  refine k_steps HG 2 (zB_iff.mpr (?_ : G m _ (114, [(0, .inl (.ref q0)), (1, .inl (.ref q1))], [.inl (.int (8 : Int32)), .inl (.int (0 : Int32)), .inl (.ref (hr h15 q0 11)), .inl (.int (0 : Int32)), .inl (.ref (hr h15 q1 11))], h15, 0, 0)))
  refine k_acp HG rfl K15 t16 t17 rfl rfl (fun _ => rfl) (fun _ => rfl) rfl (fun h18 K18 => (?_ : G m _ (117, [(0, .inl (.ref q0)), (1, .inl (.ref q1))], [], h18, 0, 0)))
  refine k_steps HG 1 (zB_iff.mpr (?_ : G m _ (118, [(0, .inl (.ref q0)), (1, .inl (.ref q1))], [.inl (.ref q1)], h18, 0, 0)))
  refine k_getR HG rfl K18 hq_q1 rfl (Nat.le_of_ble_eq_true rfl) rfl rfl (fun t19 => (?_ : G m _ (121, [(0, .inl (.ref q0)), (1, .inl (.ref q1))], [.inl (.ref (hr h18 q1 12))], h18, 0, 0)))
  refine k_steps HG 2 (zB_iff.mpr (?_ : G m _ (123, [(0, .inl (.ref q0)), (1, .inl (.ref q1))], [.inl (.ref q0), .inl (.int (0 : Int32)), .inl (.ref (hr h18 q1 12))], h18, 0, 0)))
  refine k_getR HG rfl K18 hq_q0 rfl (Nat.le_of_ble_eq_true rfl) rfl rfl (fun t20 => (?_ : G m _ (126, [(0, .inl (.ref q0)), (1, .inl (.ref q1))], [.inl (.ref (hr h18 q0 12)), .inl (.int (0 : Int32)), .inl (.ref (hr h18 q1 12))], h18, 0, 0)))
  refine k_steps HG 2 (zB_iff.mpr (?_ : G m _ (129, [(0, .inl (.ref q0)), (1, .inl (.ref q1))], [.inl (.int (8 : Int32)), .inl (.int (0 : Int32)), .inl (.ref (hr h18 q0 12)), .inl (.int (0 : Int32)), .inl (.ref (hr h18 q1 12))], h18, 0, 0)))
  refine k_acp HG rfl K18 t19 t20 rfl rfl (fun _ => rfl) (fun _ => rfl) rfl (fun h21 K21 => (?_ : G m _ (132, [(0, .inl (.ref q0)), (1, .inl (.ref q1))], [], h21, 0, 0)))
  refine k_steps HG 1 (zB_iff.mpr (?_ : G m _ (133, [(0, .inl (.ref q0)), (1, .inl (.ref q1))], [.inl (.ref q1)], h21, 0, 0)))
  refine k_getR HG rfl K21 hq_q1 rfl (Nat.le_of_ble_eq_true rfl) rfl rfl (fun t22 => (?_ : G m _ (136, [(0, .inl (.ref q0)), (1, .inl (.ref q1))], [.inl (.ref (hr h21 q1 13))], h21, 0, 0)))
  refine k_steps HG 2 (zB_iff.mpr (?_ : G m _ (138, [(0, .inl (.ref q0)), (1, .inl (.ref q1))], [.inl (.ref q0), .inl (.int (0 : Int32)), .inl (.ref (hr h21 q1 13))], h21, 0, 0)))
  refine k_getR HG rfl K21 hq_q0 rfl (Nat.le_of_ble_eq_true rfl) rfl rfl (fun t23 => (?_ : G m _ (141, [(0, .inl (.ref q0)), (1, .inl (.ref q1))], [.inl (.ref (hr h21 q0 13)), .inl (.int (0 : Int32)), .inl (.ref (hr h21 q1 13))], h21, 0, 0)))
  refine k_steps HG 2 (zB_iff.mpr (?_ : G m _ (144, [(0, .inl (.ref q0)), (1, .inl (.ref q1))], [.inl (.int (8 : Int32)), .inl (.int (0 : Int32)), .inl (.ref (hr h21 q0 13)), .inl (.int (0 : Int32)), .inl (.ref (hr h21 q1 13))], h21, 0, 0)))
  refine k_acp HG rfl K21 t22 t23 rfl rfl (fun _ => rfl) (fun _ => rfl) rfl (fun h24 K24 => (?_ : G m _ (147, [(0, .inl (.ref q0)), (1, .inl (.ref q1))], [], h24, 0, 0)))
  refine k_steps HG 2 (zB_iff.mpr (?_ : G m _ (149, [(0, .inl (.ref q0)), (1, .inl (.ref q1))], [.inl (.ref q1), .inl (.ref q0)], h24, 0, 0)))
  refine k_getI HG rfl K24 hq_q1 rfl (Nat.le_of_ble_eq_true rfl) rfl (?_ : G m _ (152, [(0, .inl (.ref q0)), (1, .inl (.ref q1))], [.inl (.int (hv h24 q1 14)), .inl (.ref q0)], h24, 0, 0))
  refine k_putI HG rfl K24 hq_q0 rfl rfl rfl (fun h25 K25 => (?_ : G m _ (155, [(0, .inl (.ref q0)), (1, .inl (.ref q1))], [], h25, 0, 0)))
  refine k_steps HG 1 (zB_iff.mpr (?_ : G m _ (156, [(0, .inl (.ref q0)), (1, .inl (.ref q1))], [.inl (.ref q1)], h25, 0, 0)))
  refine k_getR HG rfl K25 hq_q1 rfl (Nat.le_of_ble_eq_true rfl) rfl rfl (fun t26 => (?_ : G m _ (159, [(0, .inl (.ref q0)), (1, .inl (.ref q1))], [.inl (.ref (hr h25 q1 15))], h25, 0, 0)))
  refine k_steps HG 2 (zB_iff.mpr (?_ : G m _ (161, [(0, .inl (.ref q0)), (1, .inl (.ref q1))], [.inl (.ref q0), .inl (.int (0 : Int32)), .inl (.ref (hr h25 q1 15))], h25, 0, 0)))
  refine k_getR HG rfl K25 hq_q0 rfl (Nat.le_of_ble_eq_true rfl) rfl rfl (fun t27 => (?_ : G m _ (164, [(0, .inl (.ref q0)), (1, .inl (.ref q1))], [.inl (.ref (hr h25 q0 15)), .inl (.int (0 : Int32)), .inl (.ref (hr h25 q1 15))], h25, 0, 0)))
  refine k_steps HG 2 (zB_iff.mpr (?_ : G m _ (166, [(0, .inl (.ref q0)), (1, .inl (.ref q1))], [.inl (.int (4 : Int32)), .inl (.int (0 : Int32)), .inl (.ref (hr h25 q0 15)), .inl (.int (0 : Int32)), .inl (.ref (hr h25 q1 15))], h25, 0, 0)))
  refine k_acp HG rfl K25 t26 t27 rfl rfl (fun _ => rfl) (fun _ => rfl) rfl (fun h28 K28 => (?_ : G m _ (169, [(0, .inl (.ref q0)), (1, .inl (.ref q1))], [], h28, 0, 0)))
  refine k_steps HG 1 (zB_iff.mpr (?_ : G m _ (170, [(0, .inl (.ref q0)), (1, .inl (.ref q1))], [.inl (.ref q1)], h28, 0, 0)))
  refine k_getR HG rfl K28 hq_q1 rfl (Nat.le_of_ble_eq_true rfl) rfl rfl (fun t29 => (?_ : G m _ (173, [(0, .inl (.ref q0)), (1, .inl (.ref q1))], [.inl (.ref (hr h28 q1 16))], h28, 0, 0)))
  refine k_steps HG 2 (zB_iff.mpr (?_ : G m _ (175, [(0, .inl (.ref q0)), (1, .inl (.ref q1))], [.inl (.ref q0), .inl (.int (0 : Int32)), .inl (.ref (hr h28 q1 16))], h28, 0, 0)))
  refine k_getR HG rfl K28 hq_q0 rfl (Nat.le_of_ble_eq_true rfl) rfl rfl (fun t30 => (?_ : G m _ (178, [(0, .inl (.ref q0)), (1, .inl (.ref q1))], [.inl (.ref (hr h28 q0 16)), .inl (.int (0 : Int32)), .inl (.ref (hr h28 q1 16))], h28, 0, 0)))
  refine k_steps HG 2 (zB_iff.mpr (?_ : G m _ (181, [(0, .inl (.ref q0)), (1, .inl (.ref q1))], [.inl (.int (32 : Int32)), .inl (.int (0 : Int32)), .inl (.ref (hr h28 q0 16)), .inl (.int (0 : Int32)), .inl (.ref (hr h28 q1 16))], h28, 0, 0)))
  refine k_acp HG rfl K28 t29 t30 rfl rfl (fun _ => rfl) (fun _ => rfl) rfl (fun h31 K31 => (?_ : G m _ (184, [(0, .inl (.ref q0)), (1, .inl (.ref q1))], [], h31, 0, 0)))
  exact k_retv HG rfl rfl (fun e1 e2 => hR _ e1 e2 K31)
def W_X1_drawBelow : List (Nat × Nat) := [(1, 6)]
noncomputable def F_X1_drawBelow (h : zH) (q0 : Nat) (a1 : Int32) : Int32 × zH := (letf (hput h q0 6 (.inl (.int (((hv h q0 6) * (1103515245 : Int32)) + (12345 : Int32))))) (fun h1 => (if (0 : Int32) < a1 then ((jrem (((hv h1 q0 6).toUInt32 >>> ((16 : Int32).toUInt32 &&& Int32.toUInt32 31)).toInt32) a1), h1) else ((0 : Int32), h1))))
theorem x_X1_drawBelow {scr : List zV} {T : List Nat} {h : zH} {q0 : Nat} {a1 : Int32} (hsc : cT scr) (K : hOK kty T h) (hq_q0 : T[q0]? = some 1) (hh : cH h) : xIH scr W_X1_drawBelow T T 38 [.inl (.ref q0), .inl (.int a1)] h (F_X1_drawBelow h q0 a1) := by
  refine xIH_intro (E := ze_X1_drawBelow) hsc rfl (cTb_ok rfl) hh (fun d r h' G HG Pf hR m => ?_)
  have K := kOK_refl (W := W_X1_drawBelow) K
  unfold F_X1_drawBelow
  show G m _ (0, [(0, .inl (.ref q0)), (1, .inl (.int a1))], [], h, 0, 0)
  refine k_steps HG 2 (zB_iff.mpr (?_ : G m _ (2, [(0, .inl (.ref q0)), (1, .inl (.int a1))], [.inl (.ref q0), .inl (.ref q0)], h, 0, 0)))
  refine k_getI HG rfl K hq_q0 rfl (Nat.le_of_ble_eq_true rfl) rfl (?_ : G m _ (5, [(0, .inl (.ref q0)), (1, .inl (.int a1))], [.inl (.int (hv h q0 6)), .inl (.ref q0)], h, 0, 0))
  refine k_steps HG 4 (zB_iff.mpr (?_ : G m _ (12, [(0, .inl (.ref q0)), (1, .inl (.int a1))], [.inl (.int (((hv h q0 6) * (1103515245 : Int32)) + (12345 : Int32))), .inl (.ref q0)], h, 0, 0)))
  refine k_putI HG rfl K hq_q0 rfl rfl rfl (fun h1 K1 => (?_ : G m _ (15, [(0, .inl (.ref q0)), (1, .inl (.int a1))], [], h1, 0, 0)))
  refine k_steps HG 2 (kb_gt (x := a1) (y := (0 : Int32)) ?_ ?_)
  · show G m _ (23, [(0, .inl (.ref q0)), (1, .inl (.int a1))], [], h1, 0, 0)
    refine k_steps HG 1 (zB_iff.mpr (?_ : G m _ (24, [(0, .inl (.ref q0)), (1, .inl (.int a1))], [.inl (.ref q0)], h1, 0, 0)))
    refine k_getI HG rfl K1 hq_q0 rfl (Nat.le_of_ble_eq_true rfl) rfl (?_ : G m _ (27, [(0, .inl (.ref q0)), (1, .inl (.int a1))], [.inl (.int (hv h1 q0 6))], h1, 0, 0))
    refine k_steps HG 3 (zB_iff.mpr (?_ : G m _ (31, [(0, .inl (.ref q0)), (1, .inl (.int a1))], [.inl (.int a1), .inl (.int ((hv h1 q0 6).toUInt32 >>> ((16 : Int32).toUInt32 &&& Int32.toUInt32 31)).toInt32)], h1, 0, 0)))
    refine k_rem HG rfl (?_ : G m _ (32, [(0, .inl (.ref q0)), (1, .inl (.int a1))], [.inl (.int (jrem (((hv h1 q0 6).toUInt32 >>> ((16 : Int32).toUInt32 &&& Int32.toUInt32 31)).toInt32) a1))], h1, 0, 0))
    exact k_reti HG rfl rfl (fun e1 e2 => hR _ _ e1 e2 K1)
  · show G m _ (19, [(0, .inl (.ref q0)), (1, .inl (.int a1))], [], h1, 0, 0)
    refine k_steps HG 2 (zB_iff.mpr (?_ : G m _ (32, [(0, .inl (.ref q0)), (1, .inl (.int a1))], [.inl (.int (0 : Int32))], h1, 0, 0)))
    exact k_reti HG rfl rfl (fun e1 e2 => hR _ _ e1 e2 K1)
def W_X1_putAllIn : List (Nat × Nat) := [(1, 7)]
noncomputable def F_X1_putAllIn (h : zH) (q0 : Nat) : zH := (letf (hput h q0 7 (.inl (.long ((((1 : Int64) <<< (Int32.toInt64 (hv h q0 0) &&& 63)) - (1 : Int64)) <<< (Int32.toInt64 (1 : Int32) &&& 63))))) (fun h1 => h1))
theorem x_X1_putAllIn {scr : List zV} {T : List Nat} {h : zH} {q0 : Nat} (hsc : cT scr) (K : hOK kty T h) (hq_q0 : T[q0]? = some 1) (hh : cH h) : xH scr W_X1_putAllIn T T 46 [.inl (.ref q0)] h (F_X1_putAllIn h q0) := by
  refine xH_intro (E := ze_X1_putAllIn) hsc rfl (cTb_ok rfl) hh (fun d r h' G HG Pf hR m => ?_)
  have K := kOK_refl (W := W_X1_putAllIn) K
  unfold F_X1_putAllIn
  show G m _ (0, [(0, .inl (.ref q0))], [], h, 0, 0)
  refine k_steps HG 3 (zB_iff.mpr (?_ : G m _ (3, [(0, .inl (.ref q0))], [.inl (.ref q0), .inl (.long (1 : Int64)), .inl (.ref q0)], h, 0, 0)))
  refine k_getI HG rfl K hq_q0 rfl (Nat.le_of_ble_eq_true rfl) rfl (?_ : G m _ (6, [(0, .inl (.ref q0))], [.inl (.int (hv h q0 0)), .inl (.long (1 : Int64)), .inl (.ref q0)], h, 0, 0))
  refine k_steps HG 5 (zB_iff.mpr (?_ : G m _ (11, [(0, .inl (.ref q0))], [.inl (.long ((((1 : Int64) <<< (Int32.toInt64 (hv h q0 0) &&& 63)) - (1 : Int64)) <<< (Int32.toInt64 (1 : Int32) &&& 63))), .inl (.ref q0)], h, 0, 0)))
  refine k_putJ HG rfl K hq_q0 rfl rfl rfl (fun h1 K1 => (?_ : G m _ (14, [(0, .inl (.ref q0))], [], h1, 0, 0)))
  exact k_retv HG rfl rfl (fun e1 e2 => hR _ e1 e2 K1)
noncomputable def F_X1_quartersOf (h : zH) (q0 : Nat) (a1 : Int32) : Int32 := (if (0 : Int32) < (hv h q0 0) then (((((4 : Int32) * a1) + (hv h q0 0)) - (1 : Int32)) / (hv h q0 0)) else (0 : Int32))
theorem x_X1_quartersOf {scr : List zV} {T : List Nat} {h : zH} {q0 : Nat} {a1 : Int32} (hsc : cT scr) (K : hOK kty T h) (hq_q0 : T[q0]? = some 1) (hh : cH h) : xI scr 49 [.inl (.ref q0), .inl (.int a1)] h (F_X1_quartersOf h q0 a1) := by
  refine xI_intro (E := ze_X1_quartersOf) hsc rfl (cTb_ok rfl) hh (fun d r h' G HG Pf hR m => ?_)
  have K := kOK_refl (W := []) K
  unfold F_X1_quartersOf
  show G m _ (0, [(0, .inl (.ref q0)), (1, .inl (.int a1))], [], h, 0, 0)
  refine k_steps HG 1 (zB_iff.mpr (?_ : G m _ (1, [(0, .inl (.ref q0)), (1, .inl (.int a1))], [.inl (.ref q0)], h, 0, 0)))
  refine k_getI HG rfl K hq_q0 rfl (Nat.le_of_ble_eq_true rfl) rfl (?_ : G m _ (4, [(0, .inl (.ref q0)), (1, .inl (.int a1))], [.inl (.int (hv h q0 0))], h, 0, 0))
  refine k_steps HG 1 (kb_gt (x := (hv h q0 0)) (y := (0 : Int32)) ?_ ?_)
  · show G m _ (11, [(0, .inl (.ref q0)), (1, .inl (.int a1))], [], h, 0, 0)
    refine k_steps HG 4 (zB_iff.mpr (?_ : G m _ (15, [(0, .inl (.ref q0)), (1, .inl (.int a1))], [.inl (.ref q0), .inl (.int ((4 : Int32) * a1))], h, 0, 0)))
    refine k_getI HG rfl K hq_q0 rfl (Nat.le_of_ble_eq_true rfl) rfl (?_ : G m _ (18, [(0, .inl (.ref q0)), (1, .inl (.int a1))], [.inl (.int (hv h q0 0)), .inl (.int ((4 : Int32) * a1))], h, 0, 0))
    refine k_steps HG 4 (zB_iff.mpr (?_ : G m _ (22, [(0, .inl (.ref q0)), (1, .inl (.int a1))], [.inl (.ref q0), .inl (.int ((((4 : Int32) * a1) + (hv h q0 0)) - (1 : Int32)))], h, 0, 0)))
    refine k_getI HG rfl K hq_q0 rfl (Nat.le_of_ble_eq_true rfl) rfl (?_ : G m _ (25, [(0, .inl (.ref q0)), (1, .inl (.int a1))], [.inl (.int (hv h q0 0)), .inl (.int ((((4 : Int32) * a1) + (hv h q0 0)) - (1 : Int32)))], h, 0, 0))
    refine k_div HG rfl (?_ : G m _ (26, [(0, .inl (.ref q0)), (1, .inl (.int a1))], [.inl (.int (((((4 : Int32) * a1) + (hv h q0 0)) - (1 : Int32)) / (hv h q0 0)))], h, 0, 0))
    exact k_reti HG rfl rfl (fun e1 e2 => hR _ e1 e2)
  · show G m _ (7, [(0, .inl (.ref q0)), (1, .inl (.int a1))], [], h, 0, 0)
    refine k_steps HG 2 (zB_iff.mpr (?_ : G m _ (26, [(0, .inl (.ref q0)), (1, .inl (.int a1))], [.inl (.int (0 : Int32))], h, 0, 0)))
    exact k_reti HG rfl rfl (fun e1 e2 => hR _ e1 e2)
def W_X1_takeOut : List (Nat × Nat) := [(1, 7)]
noncomputable def F_X1_takeOut (h : zH) (q0 : Nat) (a1 : Int32) : zH := (letf (hput h q0 7 (.inl (.long ((hJ h q0 7) &&& (((1 : Int64) <<< (Int32.toInt64 a1 &&& 63)) ^^^ (-1 : Int64)))))) (fun h1 => h1))
theorem x_X1_takeOut {scr : List zV} {T : List Nat} {h : zH} {q0 : Nat} {a1 : Int32} (hsc : cT scr) (K : hOK kty T h) (hq_q0 : T[q0]? = some 1) (hh : cH h) : xH scr W_X1_takeOut T T 54 [.inl (.ref q0), .inl (.int a1)] h (F_X1_takeOut h q0 a1) := by
  refine xH_intro (E := ze_X1_takeOut) hsc rfl (cTb_ok rfl) hh (fun d r h' G HG Pf hR m => ?_)
  have K := kOK_refl (W := W_X1_takeOut) K
  unfold F_X1_takeOut
  show G m _ (0, [(0, .inl (.ref q0)), (1, .inl (.int a1))], [], h, 0, 0)
  refine k_steps HG 2 (zB_iff.mpr (?_ : G m _ (2, [(0, .inl (.ref q0)), (1, .inl (.int a1))], [.inl (.ref q0), .inl (.ref q0)], h, 0, 0)))
  refine k_getJ HG rfl K hq_q0 rfl (Nat.le_of_ble_eq_true rfl) rfl (?_ : G m _ (5, [(0, .inl (.ref q0)), (1, .inl (.int a1))], [.inl (.long (hJ h q0 7)), .inl (.ref q0)], h, 0, 0))
  refine k_steps HG 6 (zB_iff.mpr (?_ : G m _ (13, [(0, .inl (.ref q0)), (1, .inl (.int a1))], [.inl (.long ((hJ h q0 7) &&& (((1 : Int64) <<< (Int32.toInt64 a1 &&& 63)) ^^^ (-1 : Int64)))), .inl (.ref q0)], h, 0, 0)))
  refine k_putJ HG rfl K hq_q0 rfl rfl rfl (fun h1 K1 => (?_ : G m _ (16, [(0, .inl (.ref q0)), (1, .inl (.int a1))], [], h1, 0, 0)))
  exact k_retv HG rfl rfl (fun e1 e2 => hR _ e1 e2 K1)
noncomputable def B_X1_thingOn_2 (h : zH) (c0 : Nat) (c1 : Int32) (s : (Int32)) : (Int32) ⊕ (Int32) := (if s < (hv h c0 8) then (if (hv h (hr h c0 10) s.toNatClampNeg) = c1 then (Sum.inr s) else (Sum.inl (s + (1 : Int32)))) else (Sum.inr (-1 : Int32)))
noncomputable def F_X1_thingOn (h : zH) (q0 : Nat) (a1 : Int32) : Int32 := (fx (B_X1_thingOn_2 h q0 a1) 0 (0 : Int32))
theorem x_X1_thingOn {scr : List zV} {T : List Nat} {h : zH} {q0 : Nat} {a1 : Int32} (hsc : cT scr) (K : hOK kty T h) (hq_q0 : T[q0]? = some 1) (hh : cH h) : xI scr 56 [.inl (.ref q0), .inl (.int a1)] h (F_X1_thingOn h q0 a1) := by
  refine xI_intro (E := ze_X1_thingOn) hsc rfl (cTb_ok rfl) hh (fun d r h' G HG Pf hR m => ?_)
  have K := kOK_refl (W := []) K
  unfold F_X1_thingOn
  show G m _ (0, [(0, .inl (.ref q0)), (1, .inl (.int a1))], [], h, 0, 0)
  refine k_steps HG 2 (zB_iff.mpr (?_ : G m _ (2, [(2, .inl (.int (0 : Int32))), (0, .inl (.ref q0)), (1, .inl (.int a1))], [], h, 0, 0)))
  have lp1 : ∀ m1, m1 ≤ m → ∀ (v1_2 : Int32), G m1 (Pf (fx (B_X1_thingOn_2 h q0 a1) 0 v1_2)) (2, [(0, .inl (.ref q0)), (1, .inl (.int a1)), (2, .inl (.int v1_2))], [], h, 0, 0) := by
    intro m1
    induction m1 with
    | zero =>
      intros
      exact k_zero HG
    | succ m1 ih1 =>
      intro le1 v1_2
      have le1 := Nat.le_of_succ_le le1
      have ih1 := ih1 le1
      refine k_fx ?_
      rw [B_X1_thingOn_2]
      refine k_first HG 1 (zB_iff.mpr (?_ : G m1 _ (4, [(0, .inl (.ref q0)), (1, .inl (.int a1)), (2, .inl (.int v1_2))], [.inl (.ref q0), .inl (.int v1_2)], h, 0, 0)))
      refine k_getI HG rfl K hq_q0 rfl (Nat.le_of_ble_eq_true rfl) rfl (?_ : G m1 _ (7, [(0, .inl (.ref q0)), (1, .inl (.int a1)), (2, .inl (.int v1_2))], [.inl (.int (hv h q0 8)), .inl (.int v1_2)], h, 0, 0))
      refine k_steps HG 1 (kb_ge (x := v1_2) (y := (hv h q0 8)) ?_ ?_)
      · show G m1 _ (28, [(0, .inl (.ref q0)), (1, .inl (.int a1)), (2, .inl (.int v1_2))], [], h, 0, 0)
        refine k_steps HG 1 (zB_iff.mpr (?_ : G m1 _ (29, [(0, .inl (.ref q0)), (1, .inl (.int a1)), (2, .inl (.int v1_2))], [.inl (.int (-1 : Int32))], h, 0, 0)))
        exact k_reti HG rfl rfl (fun e1 e2 => hR _ e1 e2)
      · show G m1 _ (10, [(0, .inl (.ref q0)), (1, .inl (.int a1)), (2, .inl (.int v1_2))], [], h, 0, 0)
        refine k_steps HG 1 (zB_iff.mpr (?_ : G m1 _ (11, [(0, .inl (.ref q0)), (1, .inl (.int a1)), (2, .inl (.int v1_2))], [.inl (.ref q0)], h, 0, 0)))
        refine k_getR HG rfl K hq_q0 rfl (Nat.le_of_ble_eq_true rfl) rfl rfl (fun t2 => (?_ : G m1 _ (14, [(0, .inl (.ref q0)), (1, .inl (.int a1)), (2, .inl (.int v1_2))], [.inl (.ref (hr h q0 10))], h, 0, 0)))
        refine k_steps HG 1 (zB_iff.mpr (?_ : G m1 _ (15, [(0, .inl (.ref q0)), (1, .inl (.int a1)), (2, .inl (.int v1_2))], [.inl (.int v1_2), .inl (.ref (hr h q0 10))], h, 0, 0)))
        refine k_iald HG rfl K t2 rfl (fun _ => rfl) (?_ : G m1 _ (16, [(0, .inl (.ref q0)), (1, .inl (.int a1)), (2, .inl (.int v1_2))], [.inl (.int (hv h (hr h q0 10) v1_2.toNatClampNeg))], h, 0, 0))
        refine k_steps HG 2 (kb_ne (x := (hv h (hr h q0 10) v1_2.toNatClampNeg)) (y := a1) ?_ ?_)
        · show G m1 _ (22, [(0, .inl (.ref q0)), (1, .inl (.int a1)), (2, .inl (.int v1_2))], [], h, 0, 0)
          refine k_steps HG 2 (zB_iff.mpr (?_ : G m1 _ (2, [(2, .inl (.int (v1_2 + (1 : Int32)))), (0, .inl (.ref q0)), (1, .inl (.int a1))], [], h, 0, 0)))
          refine k_ext HG (L' := [(0, .inl (.ref q0)), (1, .inl (.int a1)), (2, .inl (.int (v1_2 + (1 : Int32))))]) rfl rfl ⟨rfl, rfl, rfl, trivial⟩ ?_
          exact ih1 _
        · show G m1 _ (20, [(0, .inl (.ref q0)), (1, .inl (.int a1)), (2, .inl (.int v1_2))], [], h, 0, 0)
          refine k_steps HG 1 (zB_iff.mpr (?_ : G m1 _ (21, [(0, .inl (.ref q0)), (1, .inl (.int a1)), (2, .inl (.int v1_2))], [.inl (.int v1_2)], h, 0, 0)))
          exact k_reti HG rfl rfl (fun e1 e2 => hR _ e1 e2)
  refine k_ext HG (L' := [(0, .inl (.ref q0)), (1, .inl (.int a1)), (2, .inl (.int (0 : Int32)))]) rfl rfl ⟨rfl, rfl, rfl, trivial⟩ ?_
  exact lp1 m (Nat.le_refl _) _
noncomputable def B_X1_thingsOwnedBy_4 (h : zH) (c0 : Nat) (c1 : Int32) (s : (Int32 × Int32)) : (Int32 × Int32) ⊕ (Int32) := (if s.2 < (hv h c0 8) then (if (hv h (hr h c0 13) s.2.toNatClampNeg) = c1 then (Sum.inl ((s.1 ||| ((1 : Int32) <<< (s.2 &&& 31))), (s.2 + (1 : Int32)))) else (Sum.inl (s.1, (s.2 + (1 : Int32))))) else (Sum.inr s.1))
noncomputable def F_X1_thingsOwnedBy (h : zH) (q0 : Nat) (a1 : Int32) : Int32 := (fx (B_X1_thingsOwnedBy_4 h q0 a1) 0 ((0 : Int32), (0 : Int32)))
theorem x_X1_thingsOwnedBy {scr : List zV} {T : List Nat} {h : zH} {q0 : Nat} {a1 : Int32} (hsc : cT scr) (K : hOK kty T h) (hq_q0 : T[q0]? = some 1) (hh : cH h) : xI scr 57 [.inl (.ref q0), .inl (.int a1)] h (F_X1_thingsOwnedBy h q0 a1) := by
  refine xI_intro (E := ze_X1_thingsOwnedBy) hsc rfl (cTb_ok rfl) hh (fun d r h' G HG Pf hR m => ?_)
  have K := kOK_refl (W := []) K
  unfold F_X1_thingsOwnedBy
  show G m _ (0, [(0, .inl (.ref q0)), (1, .inl (.int a1))], [], h, 0, 0)
  refine k_steps HG 4 (zB_iff.mpr (?_ : G m _ (4, [(3, .inl (.int (0 : Int32))), (2, .inl (.int (0 : Int32))), (0, .inl (.ref q0)), (1, .inl (.int a1))], [], h, 0, 0)))
  have lp1 : ∀ m1, m1 ≤ m → ∀ (v1_2 : Int32) (v1_3 : Int32), G m1 (Pf (fx (B_X1_thingsOwnedBy_4 h q0 a1) 0 (v1_2, v1_3))) (4, [(0, .inl (.ref q0)), (1, .inl (.int a1)), (2, .inl (.int v1_2)), (3, .inl (.int v1_3))], [], h, 0, 0) := by
    intro m1
    induction m1 with
    | zero =>
      intros
      exact k_zero HG
    | succ m1 ih1 =>
      intro le1 v1_2 v1_3
      have le1 := Nat.le_of_succ_le le1
      have ih1 := ih1 le1
      refine k_fx ?_
      rw [B_X1_thingsOwnedBy_4]
      refine k_first HG 1 (zB_iff.mpr (?_ : G m1 _ (6, [(0, .inl (.ref q0)), (1, .inl (.int a1)), (2, .inl (.int v1_2)), (3, .inl (.int v1_3))], [.inl (.ref q0), .inl (.int v1_3)], h, 0, 0)))
      refine k_getI HG rfl K hq_q0 rfl (Nat.le_of_ble_eq_true rfl) rfl (?_ : G m1 _ (9, [(0, .inl (.ref q0)), (1, .inl (.int a1)), (2, .inl (.int v1_2)), (3, .inl (.int v1_3))], [.inl (.int (hv h q0 8)), .inl (.int v1_3)], h, 0, 0))
      refine k_steps HG 1 (kb_ge (x := v1_3) (y := (hv h q0 8)) ?_ ?_)
      · show G m1 _ (34, [(0, .inl (.ref q0)), (1, .inl (.int a1)), (2, .inl (.int v1_2)), (3, .inl (.int v1_3))], [], h, 0, 0)
        refine k_steps HG 1 (zB_iff.mpr (?_ : G m1 _ (35, [(0, .inl (.ref q0)), (1, .inl (.int a1)), (2, .inl (.int v1_2)), (3, .inl (.int v1_3))], [.inl (.int v1_2)], h, 0, 0)))
        exact k_reti HG rfl rfl (fun e1 e2 => hR _ e1 e2)
      · show G m1 _ (12, [(0, .inl (.ref q0)), (1, .inl (.int a1)), (2, .inl (.int v1_2)), (3, .inl (.int v1_3))], [], h, 0, 0)
        refine k_steps HG 1 (zB_iff.mpr (?_ : G m1 _ (13, [(0, .inl (.ref q0)), (1, .inl (.int a1)), (2, .inl (.int v1_2)), (3, .inl (.int v1_3))], [.inl (.ref q0)], h, 0, 0)))
        refine k_getR HG rfl K hq_q0 rfl (Nat.le_of_ble_eq_true rfl) rfl rfl (fun t2 => (?_ : G m1 _ (16, [(0, .inl (.ref q0)), (1, .inl (.int a1)), (2, .inl (.int v1_2)), (3, .inl (.int v1_3))], [.inl (.ref (hr h q0 13))], h, 0, 0)))
        refine k_steps HG 1 (zB_iff.mpr (?_ : G m1 _ (17, [(0, .inl (.ref q0)), (1, .inl (.int a1)), (2, .inl (.int v1_2)), (3, .inl (.int v1_3))], [.inl (.int v1_3), .inl (.ref (hr h q0 13))], h, 0, 0)))
        refine k_iald HG rfl K t2 rfl (fun _ => rfl) (?_ : G m1 _ (18, [(0, .inl (.ref q0)), (1, .inl (.int a1)), (2, .inl (.int v1_2)), (3, .inl (.int v1_3))], [.inl (.int (hv h (hr h q0 13) v1_3.toNatClampNeg))], h, 0, 0))
        refine k_steps HG 2 (kb_ne (x := (hv h (hr h q0 13) v1_3.toNatClampNeg)) (y := a1) ?_ ?_)
        · show G m1 _ (28, [(0, .inl (.ref q0)), (1, .inl (.int a1)), (2, .inl (.int v1_2)), (3, .inl (.int v1_3))], [], h, 0, 0)
          refine k_steps HG 2 (zB_iff.mpr (?_ : G m1 _ (4, [(3, .inl (.int (v1_3 + (1 : Int32)))), (0, .inl (.ref q0)), (1, .inl (.int a1)), (2, .inl (.int v1_2))], [], h, 0, 0)))
          refine k_ext HG (L' := [(0, .inl (.ref q0)), (1, .inl (.int a1)), (2, .inl (.int v1_2)), (3, .inl (.int (v1_3 + (1 : Int32))))]) rfl rfl ⟨rfl, rfl, rfl, rfl, trivial⟩ ?_
          exact ih1 _ _
        · show G m1 _ (22, [(0, .inl (.ref q0)), (1, .inl (.int a1)), (2, .inl (.int v1_2)), (3, .inl (.int v1_3))], [], h, 0, 0)
          refine k_steps HG 8 (zB_iff.mpr (?_ : G m1 _ (4, [(3, .inl (.int (v1_3 + (1 : Int32)))), (2, .inl (.int (v1_2 ||| ((1 : Int32) <<< (v1_3 &&& 31))))), (0, .inl (.ref q0)), (1, .inl (.int a1))], [], h, 0, 0)))
          refine k_ext HG (L' := [(0, .inl (.ref q0)), (1, .inl (.int a1)), (2, .inl (.int (v1_2 ||| ((1 : Int32) <<< (v1_3 &&& 31))))), (3, .inl (.int (v1_3 + (1 : Int32))))]) rfl rfl ⟨rfl, rfl, rfl, rfl, trivial⟩ ?_
          exact ih1 _ _
  refine k_ext HG (L' := [(0, .inl (.ref q0)), (1, .inl (.int a1)), (2, .inl (.int (0 : Int32))), (3, .inl (.int (0 : Int32)))]) rfl rfl ⟨rfl, rfl, rfl, rfl, trivial⟩ ?_
  exact lp1 m (Nat.le_refl _) _ _
noncomputable def B_X2_numberOf_7 (h : zH) (c0 : Nat) (s : (Int32 × Int32)) : (Int32 × Int32) ⊕ (Int32) := (if s.2 < (hv h c0 4) then (Sum.inl (((((10 : Int32) * s.1) + (hv h (hr h c0 0) s.2.toNatClampNeg)) - (48 : Int32)), (s.2 + (1 : Int32)))) else (Sum.inr s.1))
noncomputable def F_X2_numberOf (h : zH) (q0 : Nat) : Int32 := (fx (B_X2_numberOf_7 h q0) 0 ((0 : Int32), (hv h q0 3)))
theorem x_X2_numberOf {scr : List zV} {T : List Nat} {h : zH} {q0 : Nat} (hsc : cT scr) (K : hOK kty T h) (hq_q0 : T[q0]? = some 2) (hh : cH h) : xI scr 63 [.inl (.ref q0)] h (F_X2_numberOf h q0) := by
  refine xI_intro (E := ze_X2_numberOf) hsc rfl (cTb_ok rfl) hh (fun d r h' G HG Pf hR m => ?_)
  have K := kOK_refl (W := []) K
  unfold F_X2_numberOf
  show G m _ (0, [(0, .inl (.ref q0))], [], h, 0, 0)
  refine k_steps HG 3 (zB_iff.mpr (?_ : G m _ (3, [(1, .inl (.int (0 : Int32))), (0, .inl (.ref q0))], [.inl (.ref q0)], h, 0, 0)))
  refine k_getI HG rfl K hq_q0 rfl (Nat.le_of_ble_eq_true rfl) rfl (?_ : G m _ (6, [(1, .inl (.int (0 : Int32))), (0, .inl (.ref q0))], [.inl (.int (hv h q0 3))], h, 0, 0))
  refine k_steps HG 1 (zB_iff.mpr (?_ : G m _ (7, [(2, .inl (.int (hv h q0 3))), (1, .inl (.int (0 : Int32))), (0, .inl (.ref q0))], [], h, 0, 0)))
  have lp1 : ∀ m1, m1 ≤ m → ∀ (v1_1 : Int32) (v1_2 : Int32), G m1 (Pf (fx (B_X2_numberOf_7 h q0) 0 (v1_1, v1_2))) (7, [(0, .inl (.ref q0)), (1, .inl (.int v1_1)), (2, .inl (.int v1_2))], [], h, 0, 0) := by
    intro m1
    induction m1 with
    | zero =>
      intros
      exact k_zero HG
    | succ m1 ih1 =>
      intro le1 v1_1 v1_2
      have le1 := Nat.le_of_succ_le le1
      have ih1 := ih1 le1
      refine k_fx ?_
      rw [B_X2_numberOf_7]
      refine k_first HG 1 (zB_iff.mpr (?_ : G m1 _ (9, [(0, .inl (.ref q0)), (1, .inl (.int v1_1)), (2, .inl (.int v1_2))], [.inl (.ref q0), .inl (.int v1_2)], h, 0, 0)))
      refine k_getI HG rfl K hq_q0 rfl (Nat.le_of_ble_eq_true rfl) rfl (?_ : G m1 _ (12, [(0, .inl (.ref q0)), (1, .inl (.int v1_1)), (2, .inl (.int v1_2))], [.inl (.int (hv h q0 4)), .inl (.int v1_2)], h, 0, 0))
      refine k_steps HG 1 (kb_ge (x := v1_2) (y := (hv h q0 4)) ?_ ?_)
      · show G m1 _ (36, [(0, .inl (.ref q0)), (1, .inl (.int v1_1)), (2, .inl (.int v1_2))], [], h, 0, 0)
        refine k_steps HG 1 (zB_iff.mpr (?_ : G m1 _ (37, [(0, .inl (.ref q0)), (1, .inl (.int v1_1)), (2, .inl (.int v1_2))], [.inl (.int v1_1)], h, 0, 0)))
        exact k_reti HG rfl rfl (fun e1 e2 => hR _ e1 e2)
      · show G m1 _ (15, [(0, .inl (.ref q0)), (1, .inl (.int v1_1)), (2, .inl (.int v1_2))], [], h, 0, 0)
        refine k_steps HG 4 (zB_iff.mpr (?_ : G m1 _ (20, [(0, .inl (.ref q0)), (1, .inl (.int v1_1)), (2, .inl (.int v1_2))], [.inl (.ref q0), .inl (.int ((10 : Int32) * v1_1))], h, 0, 0)))
        refine k_getR HG rfl K hq_q0 rfl (Nat.le_of_ble_eq_true rfl) rfl rfl (fun t2 => (?_ : G m1 _ (23, [(0, .inl (.ref q0)), (1, .inl (.int v1_1)), (2, .inl (.int v1_2))], [.inl (.ref (hr h q0 0)), .inl (.int ((10 : Int32) * v1_1))], h, 0, 0)))
        refine k_steps HG 1 (zB_iff.mpr (?_ : G m1 _ (24, [(0, .inl (.ref q0)), (1, .inl (.int v1_1)), (2, .inl (.int v1_2))], [.inl (.int v1_2), .inl (.ref (hr h q0 0)), .inl (.int ((10 : Int32) * v1_1))], h, 0, 0)))
        refine k_iald HG rfl K t2 rfl (fun _ => rfl) (?_ : G m1 _ (25, [(0, .inl (.ref q0)), (1, .inl (.int v1_1)), (2, .inl (.int v1_2))], [.inl (.int (hv h (hr h q0 0) v1_2.toNatClampNeg)), .inl (.int ((10 : Int32) * v1_1))], h, 0, 0))
        refine k_steps HG 6 (zB_iff.mpr (?_ : G m1 _ (7, [(2, .inl (.int (v1_2 + (1 : Int32)))), (1, .inl (.int ((((10 : Int32) * v1_1) + (hv h (hr h q0 0) v1_2.toNatClampNeg)) - (48 : Int32)))), (0, .inl (.ref q0))], [], h, 0, 0)))
        refine k_ext HG (L' := [(0, .inl (.ref q0)), (1, .inl (.int ((((10 : Int32) * v1_1) + (hv h (hr h q0 0) v1_2.toNatClampNeg)) - (48 : Int32)))), (2, .inl (.int (v1_2 + (1 : Int32))))]) rfl rfl ⟨rfl, rfl, rfl, trivial⟩ ?_
        exact ih1 _ _
  refine k_ext HG (L' := [(0, .inl (.ref q0)), (1, .inl (.int (0 : Int32))), (2, .inl (.int (hv h q0 3)))]) rfl rfl ⟨rfl, rfl, rfl, trivial⟩ ?_
  exact lp1 m (Nat.le_refl _) _ _
noncomputable def F_X2_sortOf (a0 : Int32) : Int32 := (if a0 < (97 : Int32) then (if a0 < (48 : Int32) then (if a0 = (59 : Int32) then (3 : Int32) else (if a0 = (32 : Int32) then (4 : Int32) else (5 : Int32))) else (if (57 : Int32) < a0 then (if a0 = (59 : Int32) then (3 : Int32) else (if a0 = (32 : Int32) then (4 : Int32) else (5 : Int32))) else (2 : Int32))) else (if (122 : Int32) < a0 then (if a0 < (48 : Int32) then (if a0 = (59 : Int32) then (3 : Int32) else (if a0 = (32 : Int32) then (4 : Int32) else (5 : Int32))) else (if (57 : Int32) < a0 then (if a0 = (59 : Int32) then (3 : Int32) else (if a0 = (32 : Int32) then (4 : Int32) else (5 : Int32))) else (2 : Int32))) else (1 : Int32)))
theorem x_X2_sortOf {scr : List zV} {h : zH} {a0 : Int32} (hsc : cT scr) (hh : cH h) : xI scr 74 [.inl (.int a0)] h (F_X2_sortOf a0) := by
  refine xI_intro (E := ze_X2_sortOf) hsc rfl (cTb_ok rfl) hh (fun d r h' G HG Pf hR m => ?_)
  unfold F_X2_sortOf
  show G m _ (0, [(0, .inl (.int a0))], [], h, 0, 0)
  refine k_steps HG 3 (kb_lt (x := a0) (y := (97 : Int32)) ?_ ?_)
  · show G m _ (14, [(0, .inl (.int a0))], [], h, 0, 0)
    refine k_steps HG 3 (kb_lt (x := a0) (y := (48 : Int32)) ?_ ?_)
    · show G m _ (28, [(0, .inl (.int a0))], [], h, 0, 0)
      refine k_steps HG 3 (kb_ne (x := a0) (y := (59 : Int32)) ?_ ?_)
      · show G m _ (36, [(0, .inl (.int a0))], [], h, 0, 0)
        refine k_steps HG 3 (kb_ne (x := a0) (y := (32 : Int32)) ?_ ?_)
        · show G m _ (46, [(0, .inl (.int a0))], [], h, 0, 0)
          refine k_steps HG 1 (zB_iff.mpr (?_ : G m _ (47, [(0, .inl (.int a0))], [.inl (.int (5 : Int32))], h, 0, 0)))
          exact k_reti HG rfl rfl (fun e1 e2 => hR _ e1 e2)
        · show G m _ (42, [(0, .inl (.int a0))], [], h, 0, 0)
          refine k_steps HG 2 (zB_iff.mpr (?_ : G m _ (47, [(0, .inl (.int a0))], [.inl (.int (4 : Int32))], h, 0, 0)))
          exact k_reti HG rfl rfl (fun e1 e2 => hR _ e1 e2)
      · show G m _ (34, [(0, .inl (.int a0))], [], h, 0, 0)
        refine k_steps HG 1 (zB_iff.mpr (?_ : G m _ (35, [(0, .inl (.int a0))], [.inl (.int (3 : Int32))], h, 0, 0)))
        exact k_reti HG rfl rfl (fun e1 e2 => hR _ e1 e2)
    · show G m _ (20, [(0, .inl (.int a0))], [], h, 0, 0)
      refine k_steps HG 3 (kb_gt (x := a0) (y := (57 : Int32)) ?_ ?_)
      · show G m _ (28, [(0, .inl (.int a0))], [], h, 0, 0)
        refine k_steps HG 3 (kb_ne (x := a0) (y := (59 : Int32)) ?_ ?_)
        · show G m _ (36, [(0, .inl (.int a0))], [], h, 0, 0)
          refine k_steps HG 3 (kb_ne (x := a0) (y := (32 : Int32)) ?_ ?_)
          · show G m _ (46, [(0, .inl (.int a0))], [], h, 0, 0)
            refine k_steps HG 1 (zB_iff.mpr (?_ : G m _ (47, [(0, .inl (.int a0))], [.inl (.int (5 : Int32))], h, 0, 0)))
            exact k_reti HG rfl rfl (fun e1 e2 => hR _ e1 e2)
          · show G m _ (42, [(0, .inl (.int a0))], [], h, 0, 0)
            refine k_steps HG 2 (zB_iff.mpr (?_ : G m _ (47, [(0, .inl (.int a0))], [.inl (.int (4 : Int32))], h, 0, 0)))
            exact k_reti HG rfl rfl (fun e1 e2 => hR _ e1 e2)
        · show G m _ (34, [(0, .inl (.int a0))], [], h, 0, 0)
          refine k_steps HG 1 (zB_iff.mpr (?_ : G m _ (35, [(0, .inl (.int a0))], [.inl (.int (3 : Int32))], h, 0, 0)))
          exact k_reti HG rfl rfl (fun e1 e2 => hR _ e1 e2)
      · show G m _ (26, [(0, .inl (.int a0))], [], h, 0, 0)
        refine k_steps HG 1 (zB_iff.mpr (?_ : G m _ (27, [(0, .inl (.int a0))], [.inl (.int (2 : Int32))], h, 0, 0)))
        exact k_reti HG rfl rfl (fun e1 e2 => hR _ e1 e2)
  · show G m _ (6, [(0, .inl (.int a0))], [], h, 0, 0)
    refine k_steps HG 3 (kb_gt (x := a0) (y := (122 : Int32)) ?_ ?_)
    · show G m _ (14, [(0, .inl (.int a0))], [], h, 0, 0)
      refine k_steps HG 3 (kb_lt (x := a0) (y := (48 : Int32)) ?_ ?_)
      · show G m _ (28, [(0, .inl (.int a0))], [], h, 0, 0)
        refine k_steps HG 3 (kb_ne (x := a0) (y := (59 : Int32)) ?_ ?_)
        · show G m _ (36, [(0, .inl (.int a0))], [], h, 0, 0)
          refine k_steps HG 3 (kb_ne (x := a0) (y := (32 : Int32)) ?_ ?_)
          · show G m _ (46, [(0, .inl (.int a0))], [], h, 0, 0)
            refine k_steps HG 1 (zB_iff.mpr (?_ : G m _ (47, [(0, .inl (.int a0))], [.inl (.int (5 : Int32))], h, 0, 0)))
            exact k_reti HG rfl rfl (fun e1 e2 => hR _ e1 e2)
          · show G m _ (42, [(0, .inl (.int a0))], [], h, 0, 0)
            refine k_steps HG 2 (zB_iff.mpr (?_ : G m _ (47, [(0, .inl (.int a0))], [.inl (.int (4 : Int32))], h, 0, 0)))
            exact k_reti HG rfl rfl (fun e1 e2 => hR _ e1 e2)
        · show G m _ (34, [(0, .inl (.int a0))], [], h, 0, 0)
          refine k_steps HG 1 (zB_iff.mpr (?_ : G m _ (35, [(0, .inl (.int a0))], [.inl (.int (3 : Int32))], h, 0, 0)))
          exact k_reti HG rfl rfl (fun e1 e2 => hR _ e1 e2)
      · show G m _ (20, [(0, .inl (.int a0))], [], h, 0, 0)
        refine k_steps HG 3 (kb_gt (x := a0) (y := (57 : Int32)) ?_ ?_)
        · show G m _ (28, [(0, .inl (.int a0))], [], h, 0, 0)
          refine k_steps HG 3 (kb_ne (x := a0) (y := (59 : Int32)) ?_ ?_)
          · show G m _ (36, [(0, .inl (.int a0))], [], h, 0, 0)
            refine k_steps HG 3 (kb_ne (x := a0) (y := (32 : Int32)) ?_ ?_)
            · show G m _ (46, [(0, .inl (.int a0))], [], h, 0, 0)
              refine k_steps HG 1 (zB_iff.mpr (?_ : G m _ (47, [(0, .inl (.int a0))], [.inl (.int (5 : Int32))], h, 0, 0)))
              exact k_reti HG rfl rfl (fun e1 e2 => hR _ e1 e2)
            · show G m _ (42, [(0, .inl (.int a0))], [], h, 0, 0)
              refine k_steps HG 2 (zB_iff.mpr (?_ : G m _ (47, [(0, .inl (.int a0))], [.inl (.int (4 : Int32))], h, 0, 0)))
              exact k_reti HG rfl rfl (fun e1 e2 => hR _ e1 e2)
          · show G m _ (34, [(0, .inl (.int a0))], [], h, 0, 0)
            refine k_steps HG 1 (zB_iff.mpr (?_ : G m _ (35, [(0, .inl (.int a0))], [.inl (.int (3 : Int32))], h, 0, 0)))
            exact k_reti HG rfl rfl (fun e1 e2 => hR _ e1 e2)
        · show G m _ (26, [(0, .inl (.int a0))], [], h, 0, 0)
          refine k_steps HG 1 (zB_iff.mpr (?_ : G m _ (27, [(0, .inl (.int a0))], [.inl (.int (2 : Int32))], h, 0, 0)))
          exact k_reti HG rfl rfl (fun e1 e2 => hR _ e1 e2)
    · show G m _ (12, [(0, .inl (.int a0))], [], h, 0, 0)
      refine k_steps HG 1 (zB_iff.mpr (?_ : G m _ (13, [(0, .inl (.int a0))], [.inl (.int (1 : Int32))], h, 0, 0)))
      exact k_reti HG rfl rfl (fun e1 e2 => hR _ e1 e2)
noncomputable def F_X3_wonWith (h : zH) (q0 : Nat) (a1 : Int32) (a2 : Int32) : Int32 := (if ((hv h q0 5) &&& ((1 : Int32) <<< (a1 &&& 31))) = (0 : Int32) then ((1 : Int32) <<< (a1 &&& 31)) else (((1 : Int32) <<< (a1 &&& 31)) ||| ((a2 &&& ((hv h q0 6) ^^^ (-1 : Int32))) &&& (-(a2 &&& ((hv h q0 6) ^^^ (-1 : Int32)))))))
theorem x_X3_wonWith {scr : List zV} {T : List Nat} {h : zH} {q0 : Nat} {a1 : Int32} {a2 : Int32} (hsc : cT scr) (K : hOK kty T h) (hq_q0 : T[q0]? = some 3) (hh : cH h) : xI scr 89 [.inl (.ref q0), .inl (.int a1), .inl (.int a2)] h (F_X3_wonWith h q0 a1 a2) := by
  refine xI_intro (E := ze_X3_wonWith) hsc rfl (cTb_ok rfl) hh (fun d r h' G HG Pf hR m => ?_)
  have K := kOK_refl (W := []) K
  unfold F_X3_wonWith
  show G m _ (0, [(0, .inl (.ref q0)), (1, .inl (.int a1)), (2, .inl (.int a2))], [], h, 0, 0)
  refine k_steps HG 5 (zB_iff.mpr (?_ : G m _ (5, [(3, .inl (.int ((1 : Int32) <<< (a1 &&& 31)))), (0, .inl (.ref q0)), (1, .inl (.int a1)), (2, .inl (.int a2))], [.inl (.ref q0)], h, 0, 0)))
  refine k_getI HG rfl K hq_q0 rfl (Nat.le_of_ble_eq_true rfl) rfl (?_ : G m _ (8, [(3, .inl (.int ((1 : Int32) <<< (a1 &&& 31)))), (0, .inl (.ref q0)), (1, .inl (.int a1)), (2, .inl (.int a2))], [.inl (.int (hv h q0 5))], h, 0, 0))
  refine k_steps HG 3 (kb_ne (x := ((hv h q0 5) &&& ((1 : Int32) <<< (a1 &&& 31)))) (y := (0 : Int32)) ?_ ?_)
  · show G m _ (15, [(3, .inl (.int ((1 : Int32) <<< (a1 &&& 31)))), (0, .inl (.ref q0)), (1, .inl (.int a1)), (2, .inl (.int a2))], [], h, 0, 0)
    refine k_steps HG 2 (zB_iff.mpr (?_ : G m _ (17, [(3, .inl (.int ((1 : Int32) <<< (a1 &&& 31)))), (0, .inl (.ref q0)), (1, .inl (.int a1)), (2, .inl (.int a2))], [.inl (.ref q0), .inl (.int a2)], h, 0, 0)))
    refine k_getI HG rfl K hq_q0 rfl (Nat.le_of_ble_eq_true rfl) rfl (?_ : G m _ (20, [(3, .inl (.int ((1 : Int32) <<< (a1 &&& 31)))), (0, .inl (.ref q0)), (1, .inl (.int a1)), (2, .inl (.int a2))], [.inl (.int (hv h q0 6)), .inl (.int a2)], h, 0, 0))
    refine k_steps HG 10 (zB_iff.mpr (?_ : G m _ (33, [(4, .inl (.int (a2 &&& ((hv h q0 6) ^^^ (-1 : Int32))))), (3, .inl (.int ((1 : Int32) <<< (a1 &&& 31)))), (0, .inl (.ref q0)), (1, .inl (.int a1)), (2, .inl (.int a2))], [.inl (.int (((1 : Int32) <<< (a1 &&& 31)) ||| ((a2 &&& ((hv h q0 6) ^^^ (-1 : Int32))) &&& (-(a2 &&& ((hv h q0 6) ^^^ (-1 : Int32)))))))], h, 0, 0)))
    exact k_reti HG rfl rfl (fun e1 e2 => hR _ e1 e2)
  · show G m _ (13, [(3, .inl (.int ((1 : Int32) <<< (a1 &&& 31)))), (0, .inl (.ref q0)), (1, .inl (.int a1)), (2, .inl (.int a2))], [], h, 0, 0)
    refine k_steps HG 1 (zB_iff.mpr (?_ : G m _ (14, [(3, .inl (.int ((1 : Int32) <<< (a1 &&& 31)))), (0, .inl (.ref q0)), (1, .inl (.int a1)), (2, .inl (.int a2))], [.inl (.int ((1 : Int32) <<< (a1 &&& 31)))], h, 0, 0)))
    exact k_reti HG rfl rfl (fun e1 e2 => hR _ e1 e2)
noncomputable def F_X4_asNumber (a0 : Int32) : Int32 := (if a0 = (0 : Int32) then (0 : Int32) else (1 : Int32))
theorem x_X4_asNumber {scr : List zV} {h : zH} {a0 : Int32} (hsc : cT scr) (hh : cH h) : xI scr 91 [.inl (.int a0)] h (F_X4_asNumber a0) := by
  refine xI_intro (E := ze_X4_asNumber) hsc rfl (cTb_ok rfl) hh (fun d r h' G HG Pf hR m => ?_)
  unfold F_X4_asNumber
  show G m _ (0, [(0, .inl (.int a0))], [], h, 0, 0)
  refine k_steps HG 2 (kb_eq (x := a0) (y := (0 : Int32)) ?_ ?_)
  · show G m _ (8, [(0, .inl (.int a0))], [], h, 0, 0)
    refine k_steps HG 1 (zB_iff.mpr (?_ : G m _ (9, [(0, .inl (.int a0))], [.inl (.int (0 : Int32))], h, 0, 0)))
    exact k_reti HG rfl rfl (fun e1 e2 => hR _ e1 e2)
  · show G m _ (4, [(0, .inl (.int a0))], [], h, 0, 0)
    refine k_steps HG 2 (zB_iff.mpr (?_ : G m _ (9, [(0, .inl (.int a0))], [.inl (.int (1 : Int32))], h, 0, 0)))
    exact k_reti HG rfl rfl (fun e1 e2 => hR _ e1 e2)
noncomputable def B_X4_countShelvesInUse_4 (h : zH) (c0 : Nat) (s : (Int32 × Int32)) : (Int32 × Int32) ⊕ (Int32) := (if s.2 < (8 : Int32) then (if (hv h (hr h (hr h c0 5) s.2.toNatClampNeg) 0) = (-1 : Int32) then (Sum.inl (s.1, (s.2 + (1 : Int32)))) else (Sum.inl ((s.1 + (1 : Int32)), (s.2 + (1 : Int32))))) else (Sum.inr s.1))
noncomputable def F_X4_countShelvesInUse (h : zH) (q0 : Nat) : Int32 := (fx (B_X4_countShelvesInUse_4 h q0) 0 ((0 : Int32), (0 : Int32)))
theorem x_X4_countShelvesInUse {scr : List zV} {T : List Nat} {h : zH} {q0 : Nat} (hsc : cT scr) (K : hOK kty T h) (hq_q0 : T[q0]? = some 4) (hh : cH h) : xI scr 100 [.inl (.ref q0)] h (F_X4_countShelvesInUse h q0) := by
  refine xI_intro (E := ze_X4_countShelvesInUse) hsc rfl (cTb_ok rfl) hh (fun d r h' G HG Pf hR m => ?_)
  have K := kOK_refl (W := []) K
  unfold F_X4_countShelvesInUse
  show G m _ (0, [(0, .inl (.ref q0))], [], h, 0, 0)
  refine k_steps HG 4 (zB_iff.mpr (?_ : G m _ (4, [(2, .inl (.int (0 : Int32))), (1, .inl (.int (0 : Int32))), (0, .inl (.ref q0))], [], h, 0, 0)))
  have lp1 : ∀ m1, m1 ≤ m → ∀ (v1_1 : Int32) (v1_2 : Int32), G m1 (Pf (fx (B_X4_countShelvesInUse_4 h q0) 0 (v1_1, v1_2))) (4, [(0, .inl (.ref q0)), (1, .inl (.int v1_1)), (2, .inl (.int v1_2))], [], h, 0, 0) := by
    intro m1
    induction m1 with
    | zero =>
      intros
      exact k_zero HG
    | succ m1 ih1 =>
      intro le1 v1_1 v1_2
      have le1 := Nat.le_of_succ_le le1
      have ih1 := ih1 le1
      refine k_fx ?_
      rw [B_X4_countShelvesInUse_4]
      refine k_first HG 2 (kb_ge (x := v1_2) (y := (8 : Int32)) ?_ ?_)
      · show G m1 _ (32, [(0, .inl (.ref q0)), (1, .inl (.int v1_1)), (2, .inl (.int v1_2))], [], h, 0, 0)
        refine k_steps HG 1 (zB_iff.mpr (?_ : G m1 _ (33, [(0, .inl (.ref q0)), (1, .inl (.int v1_1)), (2, .inl (.int v1_2))], [.inl (.int v1_1)], h, 0, 0)))
        exact k_reti HG rfl rfl (fun e1 e2 => hR _ e1 e2)
      · show G m1 _ (10, [(0, .inl (.ref q0)), (1, .inl (.int v1_1)), (2, .inl (.int v1_2))], [], h, 0, 0)
        refine k_steps HG 1 (zB_iff.mpr (?_ : G m1 _ (11, [(0, .inl (.ref q0)), (1, .inl (.int v1_1)), (2, .inl (.int v1_2))], [.inl (.ref q0)], h, 0, 0)))
        refine k_getR HG rfl K hq_q0 rfl (Nat.le_of_ble_eq_true rfl) rfl rfl (fun t2 => (?_ : G m1 _ (14, [(0, .inl (.ref q0)), (1, .inl (.int v1_1)), (2, .inl (.int v1_2))], [.inl (.ref (hr h q0 5))], h, 0, 0)))
        refine k_steps HG 1 (zB_iff.mpr (?_ : G m1 _ (15, [(0, .inl (.ref q0)), (1, .inl (.int v1_1)), (2, .inl (.int v1_2))], [.inl (.int v1_2), .inl (.ref (hr h q0 5))], h, 0, 0)))
        refine k_aald HG rfl K t2 (fun _ => ⟨rfl, rfl⟩) (fun t3 => (?_ : G m1 _ (16, [(0, .inl (.ref q0)), (1, .inl (.int v1_1)), (2, .inl (.int v1_2))], [.inl (.ref (hr h (hr h q0 5) v1_2.toNatClampNeg))], h, 0, 0)))
        refine k_getI HG rfl K t3 rfl (Nat.le_of_ble_eq_true rfl) rfl (?_ : G m1 _ (19, [(0, .inl (.ref q0)), (1, .inl (.int v1_1)), (2, .inl (.int v1_2))], [.inl (.int (hv h (hr h (hr h q0 5) v1_2.toNatClampNeg) 0))], h, 0, 0))
        refine k_steps HG 2 (kb_eq (x := (hv h (hr h (hr h q0 5) v1_2.toNatClampNeg) 0)) (y := (-1 : Int32)) ?_ ?_)
        · show G m1 _ (26, [(0, .inl (.ref q0)), (1, .inl (.int v1_1)), (2, .inl (.int v1_2))], [], h, 0, 0)
          refine k_steps HG 2 (zB_iff.mpr (?_ : G m1 _ (4, [(2, .inl (.int (v1_2 + (1 : Int32)))), (0, .inl (.ref q0)), (1, .inl (.int v1_1))], [], h, 0, 0)))
          refine k_ext HG (L' := [(0, .inl (.ref q0)), (1, .inl (.int v1_1)), (2, .inl (.int (v1_2 + (1 : Int32))))]) rfl rfl ⟨rfl, rfl, rfl, trivial⟩ ?_
          exact ih1 _ _
        · show G m1 _ (23, [(0, .inl (.ref q0)), (1, .inl (.int v1_1)), (2, .inl (.int v1_2))], [], h, 0, 0)
          refine k_steps HG 3 (zB_iff.mpr (?_ : G m1 _ (4, [(2, .inl (.int (v1_2 + (1 : Int32)))), (1, .inl (.int (v1_1 + (1 : Int32)))), (0, .inl (.ref q0))], [], h, 0, 0)))
          refine k_ext HG (L' := [(0, .inl (.ref q0)), (1, .inl (.int (v1_1 + (1 : Int32)))), (2, .inl (.int (v1_2 + (1 : Int32))))]) rfl rfl ⟨rfl, rfl, rfl, trivial⟩ ?_
          exact ih1 _ _
  refine k_ext HG (L' := [(0, .inl (.ref q0)), (1, .inl (.int (0 : Int32))), (2, .inl (.int (0 : Int32)))]) rfl rfl ⟨rfl, rfl, rfl, trivial⟩ ?_
  exact lp1 m (Nat.le_refl _) _ _
def W_X4_seed : List (Nat × Nat) := [(1, 6)]
noncomputable def F_X4_seed (h : zH) (q0 : Nat) (a1 : Int32) : Int32 × zH := (letf (hput h (hr h q0 0) 6 (.inl (.int a1))) (fun h3 => ((hv h (hr h q0 0) 6), h3)))
theorem x_X4_seed {scr : List zV} {T : List Nat} {h : zH} {q0 : Nat} {a1 : Int32} (hsc : cT scr) (K : hOK kty T h) (hq_q0 : T[q0]? = some 4) (hh : cH h) : xIH scr W_X4_seed T T 133 [.inl (.ref q0), .inl (.int a1)] h (F_X4_seed h q0 a1) := by
  refine xIH_intro (E := ze_X4_seed) hsc rfl (cTb_ok rfl) hh (fun d r h' G HG Pf hR m => ?_)
  have K := kOK_refl (W := W_X4_seed) K
  unfold F_X4_seed
  show G m _ (0, [(0, .inl (.ref q0)), (1, .inl (.int a1))], [], h, 0, 0)
  refine k_steps HG 1 (zB_iff.mpr (?_ : G m _ (1, [(0, .inl (.ref q0)), (1, .inl (.int a1))], [.inl (.ref q0)], h, 0, 0)))
  refine k_getR HG rfl K hq_q0 rfl (Nat.le_of_ble_eq_true rfl) rfl rfl (fun t1 => (?_ : G m _ (4, [(0, .inl (.ref q0)), (1, .inl (.int a1))], [.inl (.ref (hr h q0 0))], h, 0, 0)))
  refine k_getI HG rfl K t1 rfl (Nat.le_of_ble_eq_true rfl) rfl (?_ : G m _ (7, [(0, .inl (.ref q0)), (1, .inl (.int a1))], [.inl (.int (hv h (hr h q0 0) 6))], h, 0, 0))
  refine k_steps HG 2 (zB_iff.mpr (?_ : G m _ (9, [(2, .inl (.int (hv h (hr h q0 0) 6))), (0, .inl (.ref q0)), (1, .inl (.int a1))], [.inl (.ref q0)], h, 0, 0)))
  refine k_getR HG rfl K hq_q0 rfl (Nat.le_of_ble_eq_true rfl) rfl rfl (fun t2 => (?_ : G m _ (12, [(2, .inl (.int (hv h (hr h q0 0) 6))), (0, .inl (.ref q0)), (1, .inl (.int a1))], [.inl (.ref (hr h q0 0))], h, 0, 0)))
  refine k_steps HG 1 (zB_iff.mpr (?_ : G m _ (13, [(2, .inl (.int (hv h (hr h q0 0) 6))), (0, .inl (.ref q0)), (1, .inl (.int a1))], [.inl (.int a1), .inl (.ref (hr h q0 0))], h, 0, 0)))
  refine k_putI HG rfl K t2 rfl rfl rfl (fun h3 K3 => (?_ : G m _ (16, [(2, .inl (.int (hv h (hr h q0 0) 6))), (0, .inl (.ref q0)), (1, .inl (.int a1))], [], h3, 0, 0)))
  refine k_steps HG 1 (zB_iff.mpr (?_ : G m _ (17, [(2, .inl (.int (hv h (hr h q0 0) 6))), (0, .inl (.ref q0)), (1, .inl (.int a1))], [.inl (.int (hv h (hr h q0 0) 6))], h3, 0, 0)))
  exact k_reti HG rfl rfl (fun e1 e2 => hR _ _ e1 e2 K3)
noncomputable def F_X4_sureness (a0 : Int32) (a1 : Int32) : Int32 := (if (0 : Int32) < (((2 : Int32) * a0) - a1) then (((1000000 : Int32) * a0) / (((2 : Int32) * a0) - a1)) else (0 : Int32))
theorem x_X4_sureness {scr : List zV} {h : zH} {a0 : Int32} {a1 : Int32} (hsc : cT scr) (hh : cH h) : xI scr 141 [.inl (.int a0), .inl (.int a1)] h (F_X4_sureness a0 a1) := by
  refine xI_intro (E := ze_X4_sureness) hsc rfl (cTb_ok rfl) hh (fun d r h' G HG Pf hR m => ?_)
  unfold F_X4_sureness
  show G m _ (0, [(0, .inl (.int a0)), (1, .inl (.int a1))], [], h, 0, 0)
  refine k_steps HG 8 (kb_gt (x := (((2 : Int32) * a0) - a1)) (y := (0 : Int32)) ?_ ?_)
  · show G m _ (14, [(2, .inl (.int (((2 : Int32) * a0) - a1))), (0, .inl (.int a0)), (1, .inl (.int a1))], [], h, 0, 0)
    refine k_steps HG 4 (zB_iff.mpr (?_ : G m _ (19, [(2, .inl (.int (((2 : Int32) * a0) - a1))), (0, .inl (.int a0)), (1, .inl (.int a1))], [.inl (.int (((2 : Int32) * a0) - a1)), .inl (.int ((1000000 : Int32) * a0))], h, 0, 0)))
    refine k_div HG rfl (?_ : G m _ (20, [(2, .inl (.int (((2 : Int32) * a0) - a1))), (0, .inl (.int a0)), (1, .inl (.int a1))], [.inl (.int (((1000000 : Int32) * a0) / (((2 : Int32) * a0) - a1)))], h, 0, 0))
    exact k_reti HG rfl rfl (fun e1 e2 => hR _ e1 e2)
  · show G m _ (10, [(2, .inl (.int (((2 : Int32) * a0) - a1))), (0, .inl (.int a0)), (1, .inl (.int a1))], [], h, 0, 0)
    refine k_steps HG 2 (zB_iff.mpr (?_ : G m _ (20, [(2, .inl (.int (((2 : Int32) * a0) - a1))), (0, .inl (.int a0)), (1, .inl (.int a1))], [.inl (.int (0 : Int32))], h, 0, 0)))
    exact k_reti HG rfl rfl (fun e1 e2 => hR _ e1 e2)
def W_X4_wipe : List (Nat × Nat) := [(2, 1)]
noncomputable def F_X4_wipe (h : zH) (q0 : Nat) : Int32 × zH := (letf (hput h (hr h q0 4) 1 (.inl (.int (0 : Int32)))) (fun h3 => ((hv h (hr h q0 4) 1), h3)))
theorem x_X4_wipe {scr : List zV} {T : List Nat} {h : zH} {q0 : Nat} (hsc : cT scr) (K : hOK kty T h) (hq_q0 : T[q0]? = some 4) (hh : cH h) : xIH scr W_X4_wipe T T 148 [.inl (.ref q0)] h (F_X4_wipe h q0) := by
  refine xIH_intro (E := ze_X4_wipe) hsc rfl (cTb_ok rfl) hh (fun d r h' G HG Pf hR m => ?_)
  have K := kOK_refl (W := W_X4_wipe) K
  unfold F_X4_wipe
  show G m _ (0, [(0, .inl (.ref q0))], [], h, 0, 0)
  refine k_steps HG 1 (zB_iff.mpr (?_ : G m _ (1, [(0, .inl (.ref q0))], [.inl (.ref q0)], h, 0, 0)))
  refine k_getR HG rfl K hq_q0 rfl (Nat.le_of_ble_eq_true rfl) rfl rfl (fun t1 => (?_ : G m _ (4, [(0, .inl (.ref q0))], [.inl (.ref (hr h q0 4))], h, 0, 0)))
  refine k_getI HG rfl K t1 rfl (Nat.le_of_ble_eq_true rfl) rfl (?_ : G m _ (7, [(0, .inl (.ref q0))], [.inl (.int (hv h (hr h q0 4) 1))], h, 0, 0))
  refine k_steps HG 2 (zB_iff.mpr (?_ : G m _ (9, [(1, .inl (.int (hv h (hr h q0 4) 1))), (0, .inl (.ref q0))], [.inl (.ref q0)], h, 0, 0)))
  refine k_getR HG rfl K hq_q0 rfl (Nat.le_of_ble_eq_true rfl) rfl rfl (fun t2 => (?_ : G m _ (12, [(1, .inl (.int (hv h (hr h q0 4) 1))), (0, .inl (.ref q0))], [.inl (.ref (hr h q0 4))], h, 0, 0)))
  refine k_steps HG 1 (zB_iff.mpr (?_ : G m _ (13, [(1, .inl (.int (hv h (hr h q0 4) 1))), (0, .inl (.ref q0))], [.inl (.int (0 : Int32)), .inl (.ref (hr h q0 4))], h, 0, 0)))
  refine k_putI HG rfl K t2 rfl rfl rfl (fun h3 K3 => (?_ : G m _ (16, [(1, .inl (.int (hv h (hr h q0 4) 1))), (0, .inl (.ref q0))], [], h3, 0, 0)))
  refine k_steps HG 1 (zB_iff.mpr (?_ : G m _ (17, [(1, .inl (.int (hv h (hr h q0 4) 1))), (0, .inl (.ref q0))], [.inl (.int (hv h (hr h q0 4) 1))], h3, 0, 0)))
  exact k_reti HG rfl rfl (fun e1 e2 => hR _ _ e1 e2 K3)
