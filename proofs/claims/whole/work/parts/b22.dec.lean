noncomputable def F_X4_lackOfRows (h : zH) (q0 : Nat) (q1 : Nat) : Int32 := (letf (F_X0_lackOfRow h q0) (fun y1 => (letf (F_X0_lackOfRow h q1) (fun y2 => (if y1 = (-3 : Int32) then (-3 : Int32) else (if y2 = (-3 : Int32) then (-3 : Int32) else (if y1 = (-4 : Int32) then (-4 : Int32) else (if y2 = (-4 : Int32) then (-4 : Int32) else (if (hv h q0 0) = (hv h q1 0) then (0 : Int32) else (-3 : Int32))))))))))
theorem x_X4_lackOfRows {scr : List zV} {T : List Nat} {h : zH} {q0 : Nat} {q1 : Nat} (hsc : cT scr) (K : hOK kty T h) (hq_q0 : T[q0]? = some 0) (hq_q1 : T[q1]? = some 0) (hh : cH h) : xI scr 118 [.inl (.ref q0), .inl (.ref q1)] h (F_X4_lackOfRows h q0 q1) := by
  refine xI_intro (E := ze_X4_lackOfRows) hsc rfl (cTb_ok rfl) hh (fun d r h' G HG Pf hR m => ?_)
  have K := kOK_refl (W := []) K
  unfold F_X4_lackOfRows
  show G m _ (0, [(0, .inl (.ref q0)), (1, .inl (.ref q1))], [], h, 0, 0)
  refine k_steps HG 1 (zB_iff.mpr (?_ : G m _ (1, [(0, .inl (.ref q0)), (1, .inl (.ref q1))], [.inl (.ref q0)], h, 0, 0)))
  refine k_cVI HG (E' := ze_X0_lackOfRow) (Or.inl ⟨rfl, rfl⟩) hsc rfl rfl rfl rfl rfl (fun hh => x_X0_lackOfRow hsc K.1 hq_q0 hh) (fun y1 => (?_ : G m _ (4, [(0, .inl (.ref q0)), (1, .inl (.ref q1))], [.inl (.int y1)], h, 0, 0)))
  refine k_steps HG 2 (zB_iff.mpr (?_ : G m _ (6, [(2, .inl (.int y1)), (0, .inl (.ref q0)), (1, .inl (.ref q1))], [.inl (.ref q1)], h, 0, 0)))
  refine k_cVI HG (E' := ze_X0_lackOfRow) (Or.inl ⟨rfl, rfl⟩) hsc rfl rfl rfl rfl rfl (fun hh => x_X0_lackOfRow hsc K.1 hq_q1 hh) (fun y2 => (?_ : G m _ (9, [(2, .inl (.int y1)), (0, .inl (.ref q0)), (1, .inl (.ref q1))], [.inl (.int y2)], h, 0, 0)))
  refine k_steps HG 4 (kb_eq (x := y1) (y := (-3 : Int32)) ?_ ?_)
  · show G m _ (22, [(3, .inl (.int y2)), (2, .inl (.int y1)), (0, .inl (.ref q0)), (1, .inl (.ref q1))], [], h, 0, 0)
    refine k_steps HG 1 (zB_iff.mpr (?_ : G m _ (24, [(3, .inl (.int y2)), (2, .inl (.int y1)), (0, .inl (.ref q0)), (1, .inl (.ref q1))], [.inl (.int (-3 : Int32))], h, 0, 0)))
    exact k_reti HG rfl rfl (fun e1 e2 => hR _ e1 e2)
  · show G m _ (16, [(3, .inl (.int y2)), (2, .inl (.int y1)), (0, .inl (.ref q0)), (1, .inl (.ref q1))], [], h, 0, 0)
    refine k_steps HG 3 (kb_ne (x := y2) (y := (-3 : Int32)) ?_ ?_)
    · show G m _ (25, [(3, .inl (.int y2)), (2, .inl (.int y1)), (0, .inl (.ref q0)), (1, .inl (.ref q1))], [], h, 0, 0)
      refine k_steps HG 3 (kb_eq (x := y1) (y := (-4 : Int32)) ?_ ?_)
      · show G m _ (37, [(3, .inl (.int y2)), (2, .inl (.int y1)), (0, .inl (.ref q0)), (1, .inl (.ref q1))], [], h, 0, 0)
        refine k_steps HG 1 (zB_iff.mpr (?_ : G m _ (39, [(3, .inl (.int y2)), (2, .inl (.int y1)), (0, .inl (.ref q0)), (1, .inl (.ref q1))], [.inl (.int (-4 : Int32))], h, 0, 0)))
        exact k_reti HG rfl rfl (fun e1 e2 => hR _ e1 e2)
      · show G m _ (31, [(3, .inl (.int y2)), (2, .inl (.int y1)), (0, .inl (.ref q0)), (1, .inl (.ref q1))], [], h, 0, 0)
        refine k_steps HG 3 (kb_ne (x := y2) (y := (-4 : Int32)) ?_ ?_)
        · show G m _ (40, [(3, .inl (.int y2)), (2, .inl (.int y1)), (0, .inl (.ref q0)), (1, .inl (.ref q1))], [], h, 0, 0)
          refine k_steps HG 1 (zB_iff.mpr (?_ : G m _ (41, [(3, .inl (.int y2)), (2, .inl (.int y1)), (0, .inl (.ref q0)), (1, .inl (.ref q1))], [.inl (.ref q0)], h, 0, 0)))
          refine k_getI HG rfl K hq_q0 rfl (Nat.le_of_ble_eq_true rfl) rfl (?_ : G m _ (44, [(3, .inl (.int y2)), (2, .inl (.int y1)), (0, .inl (.ref q0)), (1, .inl (.ref q1))], [.inl (.int (hv h q0 0))], h, 0, 0))
          refine k_steps HG 1 (zB_iff.mpr (?_ : G m _ (45, [(3, .inl (.int y2)), (2, .inl (.int y1)), (0, .inl (.ref q0)), (1, .inl (.ref q1))], [.inl (.ref q1), .inl (.int (hv h q0 0))], h, 0, 0)))
          refine k_getI HG rfl K hq_q1 rfl (Nat.le_of_ble_eq_true rfl) rfl (?_ : G m _ (48, [(3, .inl (.int y2)), (2, .inl (.int y1)), (0, .inl (.ref q0)), (1, .inl (.ref q1))], [.inl (.int (hv h q1 0)), .inl (.int (hv h q0 0))], h, 0, 0))
          refine k_steps HG 1 (kb_ne (x := (hv h q0 0)) (y := (hv h q1 0)) ?_ ?_)
          · show G m _ (55, [(3, .inl (.int y2)), (2, .inl (.int y1)), (0, .inl (.ref q0)), (1, .inl (.ref q1))], [], h, 0, 0)
            refine k_steps HG 1 (zB_iff.mpr (?_ : G m _ (57, [(3, .inl (.int y2)), (2, .inl (.int y1)), (0, .inl (.ref q0)), (1, .inl (.ref q1))], [.inl (.int (-3 : Int32))], h, 0, 0)))
            exact k_reti HG rfl rfl (fun e1 e2 => hR _ e1 e2)
          · show G m _ (51, [(3, .inl (.int y2)), (2, .inl (.int y1)), (0, .inl (.ref q0)), (1, .inl (.ref q1))], [], h, 0, 0)
            refine k_steps HG 2 (zB_iff.mpr (?_ : G m _ (57, [(3, .inl (.int y2)), (2, .inl (.int y1)), (0, .inl (.ref q0)), (1, .inl (.ref q1))], [.inl (.int (0 : Int32))], h, 0, 0)))
            exact k_reti HG rfl rfl (fun e1 e2 => hR _ e1 e2)
        · show G m _ (37, [(3, .inl (.int y2)), (2, .inl (.int y1)), (0, .inl (.ref q0)), (1, .inl (.ref q1))], [], h, 0, 0)
          refine k_steps HG 1 (zB_iff.mpr (?_ : G m _ (39, [(3, .inl (.int y2)), (2, .inl (.int y1)), (0, .inl (.ref q0)), (1, .inl (.ref q1))], [.inl (.int (-4 : Int32))], h, 0, 0)))
          exact k_reti HG rfl rfl (fun e1 e2 => hR _ e1 e2)
    · show G m _ (22, [(3, .inl (.int y2)), (2, .inl (.int y1)), (0, .inl (.ref q0)), (1, .inl (.ref q1))], [], h, 0, 0)
      refine k_steps HG 1 (zB_iff.mpr (?_ : G m _ (24, [(3, .inl (.int y2)), (2, .inl (.int y1)), (0, .inl (.ref q0)), (1, .inl (.ref q1))], [.inl (.int (-3 : Int32))], h, 0, 0)))
      exact k_reti HG rfl rfl (fun e1 e2 => hR _ e1 e2)
def W_X4_set : List (Nat × Nat) := [(10, 1000), (23, 1000)]
noncomputable def F_X4_set (h : zH) (q0 : Nat) (a1 : Int32) (a2 : Int32) (b3 : Int64) : Int32 × zH := (letf (F_X4_isShelf a1) (fun y1 => (if y1 = (0 : Int32) then (letf (F_X4_refuse h q0 (-2 : Int32)) (fun y11 => (y11.1, y11.2))) else (letf (F_X0_lackOfRow h (hr h (hr h q0 5) a1.toNatClampNeg)) (fun y4 => (if y4 = (0 : Int32) then (letf (F_X0_hasElement h (hr h (hr h q0 5) a1.toNatClampNeg) a2) (fun y5 => (if y5 = (0 : Int32) then (letf (F_X4_refuse h q0 (-2 : Int32)) (fun y9 => (y9.1, y9.2))) else (letf (F_X0_lowestBits h (hr h (hr h q0 5) a1.toNatClampNeg) b3) (fun y7 => (letf (hput h (hr h (hr h (hr h q0 5) a1.toNatClampNeg) 2) a2.toNatClampNeg (.inl (.long y7))) (fun h8 => ((1 : Int32), h8)))))))) else (letf (F_X4_refuse h q0 y4) (fun y10 => (y10.1, y10.2)))))))))
theorem x_X4_set {scr : List zV} {T : List Nat} {h : zH} {q0 : Nat} {a1 : Int32} {a2 : Int32} {b3 : Int64} (hsc : cT scr) (K : hOK kty T h) (hq_q0 : T[q0]? = some 4) (hh : cH h) : xIH scr W_X4_set T T 134 [.inl (.ref q0), .inl (.int a1), .inl (.int a2), .inl (.long b3)] h (F_X4_set h q0 a1 a2 b3) := by
  refine xIH_intro (E := ze_X4_set) hsc rfl (cTb_ok rfl) hh (fun d r h' G HG Pf hR m => ?_)
  have K := kOK_refl (W := W_X4_set) K
  unfold F_X4_set
  show G m _ (0, [(0, .inl (.ref q0)), (1, .inl (.int a1)), (2, .inl (.int a2)), (3, .inl (.long b3))], [], h, 0, 0)
  refine k_steps HG 1 (zB_iff.mpr (?_ : G m _ (1, [(0, .inl (.ref q0)), (1, .inl (.int a1)), (2, .inl (.int a2)), (3, .inl (.long b3))], [.inl (.int a1)], h, 0, 0)))
  refine k_cSI HG (E' := ze_X4_isShelf) (Or.inl rfl) hsc rfl rfl rfl rfl (fun hh => x_X4_isShelf hsc hh) (fun y1 => (?_ : G m _ (4, [(0, .inl (.ref q0)), (1, .inl (.int a1)), (2, .inl (.int a2)), (3, .inl (.long b3))], [.inl (.int y1)], h, 0, 0)))
  refine k_steps HG 1 (kb_ne (x := y1) (y := (0 : Int32)) ?_ ?_)
  · show G m _ (14, [(0, .inl (.ref q0)), (1, .inl (.int a1)), (2, .inl (.int a2)), (3, .inl (.long b3))], [], h, 0, 0)
    refine k_steps HG 1 (zB_iff.mpr (?_ : G m _ (15, [(0, .inl (.ref q0)), (1, .inl (.int a1)), (2, .inl (.int a2)), (3, .inl (.long b3))], [.inl (.ref q0)], h, 0, 0)))
    refine k_getR HG rfl K hq_q0 rfl (Nat.le_of_ble_eq_true rfl) rfl rfl (fun t2 => (?_ : G m _ (18, [(0, .inl (.ref q0)), (1, .inl (.int a1)), (2, .inl (.int a2)), (3, .inl (.long b3))], [.inl (.ref (hr h q0 5))], h, 0, 0)))
    refine k_steps HG 1 (zB_iff.mpr (?_ : G m _ (19, [(0, .inl (.ref q0)), (1, .inl (.int a1)), (2, .inl (.int a2)), (3, .inl (.long b3))], [.inl (.int a1), .inl (.ref (hr h q0 5))], h, 0, 0)))
    refine k_aald HG rfl K t2 (fun _ => ⟨rfl, rfl⟩) (fun t3 => (?_ : G m _ (20, [(0, .inl (.ref q0)), (1, .inl (.int a1)), (2, .inl (.int a2)), (3, .inl (.long b3))], [.inl (.ref (hr h (hr h q0 5) a1.toNatClampNeg))], h, 0, 0)))
    refine k_steps HG 2 (zB_iff.mpr (?_ : G m _ (24, [(5, .inl (.ref (hr h (hr h q0 5) a1.toNatClampNeg))), (0, .inl (.ref q0)), (1, .inl (.int a1)), (2, .inl (.int a2)), (3, .inl (.long b3))], [.inl (.ref (hr h (hr h q0 5) a1.toNatClampNeg))], h, 0, 0)))
    refine k_cVI HG (E' := ze_X0_lackOfRow) (Or.inl ⟨rfl, rfl⟩) hsc rfl rfl rfl rfl rfl (fun hh => x_X0_lackOfRow hsc K.1 t3 hh) (fun y4 => (?_ : G m _ (27, [(5, .inl (.ref (hr h (hr h q0 5) a1.toNatClampNeg))), (0, .inl (.ref q0)), (1, .inl (.int a1)), (2, .inl (.int a2)), (3, .inl (.long b3))], [.inl (.int y4)], h, 0, 0)))
    refine k_steps HG 3 (kb_eq (x := y4) (y := (0 : Int32)) ?_ ?_)
    · show G m _ (41, [(6, .inl (.int y4)), (5, .inl (.ref (hr h (hr h q0 5) a1.toNatClampNeg))), (0, .inl (.ref q0)), (1, .inl (.int a1)), (2, .inl (.int a2)), (3, .inl (.long b3))], [], h, 0, 0)
      refine k_steps HG 2 (zB_iff.mpr (?_ : G m _ (44, [(6, .inl (.int y4)), (5, .inl (.ref (hr h (hr h q0 5) a1.toNatClampNeg))), (0, .inl (.ref q0)), (1, .inl (.int a1)), (2, .inl (.int a2)), (3, .inl (.long b3))], [.inl (.int a2), .inl (.ref (hr h (hr h q0 5) a1.toNatClampNeg))], h, 0, 0)))
      refine k_cVI HG (E' := ze_X0_hasElement) (Or.inl ⟨rfl, rfl⟩) hsc rfl rfl rfl rfl rfl (fun hh => x_X0_hasElement hsc K.1 t3 hh) (fun y5 => (?_ : G m _ (47, [(6, .inl (.int y4)), (5, .inl (.ref (hr h (hr h q0 5) a1.toNatClampNeg))), (0, .inl (.ref q0)), (1, .inl (.int a1)), (2, .inl (.int a2)), (3, .inl (.long b3))], [.inl (.int y5)], h, 0, 0)))
      refine k_steps HG 1 (kb_ne (x := y5) (y := (0 : Int32)) ?_ ?_)
      · show G m _ (57, [(6, .inl (.int y4)), (5, .inl (.ref (hr h (hr h q0 5) a1.toNatClampNeg))), (0, .inl (.ref q0)), (1, .inl (.int a1)), (2, .inl (.int a2)), (3, .inl (.long b3))], [], h, 0, 0)
        refine k_steps HG 1 (zB_iff.mpr (?_ : G m _ (59, [(6, .inl (.int y4)), (5, .inl (.ref (hr h (hr h q0 5) a1.toNatClampNeg))), (0, .inl (.ref q0)), (1, .inl (.int a1)), (2, .inl (.int a2)), (3, .inl (.long b3))], [.inl (.ref (hr h (hr h q0 5) a1.toNatClampNeg))], h, 0, 0)))
        refine k_getR HG rfl K t3 rfl (Nat.le_of_ble_eq_true rfl) rfl rfl (fun t6 => (?_ : G m _ (62, [(6, .inl (.int y4)), (5, .inl (.ref (hr h (hr h q0 5) a1.toNatClampNeg))), (0, .inl (.ref q0)), (1, .inl (.int a1)), (2, .inl (.int a2)), (3, .inl (.long b3))], [.inl (.ref (hr h (hr h (hr h q0 5) a1.toNatClampNeg) 2))], h, 0, 0)))
        refine k_steps HG 3 (zB_iff.mpr (?_ : G m _ (66, [(6, .inl (.int y4)), (5, .inl (.ref (hr h (hr h q0 5) a1.toNatClampNeg))), (0, .inl (.ref q0)), (1, .inl (.int a1)), (2, .inl (.int a2)), (3, .inl (.long b3))], [.inl (.long b3), .inl (.ref (hr h (hr h q0 5) a1.toNatClampNeg)), .inl (.int a2), .inl (.ref (hr h (hr h (hr h q0 5) a1.toNatClampNeg) 2))], h, 0, 0)))
        refine k_cVJ HG (E' := ze_X0_lowestBits) (Or.inl ⟨rfl, rfl⟩) hsc rfl rfl rfl rfl rfl (fun hh => x_X0_lowestBits hsc K.1 t3 hh) (fun y7 => (?_ : G m _ (69, [(6, .inl (.int y4)), (5, .inl (.ref (hr h (hr h q0 5) a1.toNatClampNeg))), (0, .inl (.ref q0)), (1, .inl (.int a1)), (2, .inl (.int a2)), (3, .inl (.long b3))], [.inl (.long y7), .inl (.int a2), .inl (.ref (hr h (hr h (hr h q0 5) a1.toNatClampNeg) 2))], h, 0, 0)))
        refine k_last HG rfl K t6 rfl (fun _ => rfl) rfl (fun h8 K8 => (?_ : G m _ (70, [(6, .inl (.int y4)), (5, .inl (.ref (hr h (hr h q0 5) a1.toNatClampNeg))), (0, .inl (.ref q0)), (1, .inl (.int a1)), (2, .inl (.int a2)), (3, .inl (.long b3))], [], h8, 0, 0)))
        refine k_steps HG 1 (zB_iff.mpr (?_ : G m _ (71, [(6, .inl (.int y4)), (5, .inl (.ref (hr h (hr h q0 5) a1.toNatClampNeg))), (0, .inl (.ref q0)), (1, .inl (.int a1)), (2, .inl (.int a2)), (3, .inl (.long b3))], [.inl (.int (1 : Int32))], h8, 0, 0)))
        exact k_reti HG rfl rfl (fun e1 e2 => hR _ _ e1 e2 K8)
      · show G m _ (50, [(6, .inl (.int y4)), (5, .inl (.ref (hr h (hr h q0 5) a1.toNatClampNeg))), (0, .inl (.ref q0)), (1, .inl (.int a1)), (2, .inl (.int a2)), (3, .inl (.long b3))], [], h, 0, 0)
        refine k_steps HG 2 (zB_iff.mpr (?_ : G m _ (53, [(6, .inl (.int y4)), (5, .inl (.ref (hr h (hr h q0 5) a1.toNatClampNeg))), (0, .inl (.ref q0)), (1, .inl (.int a1)), (2, .inl (.int a2)), (3, .inl (.long b3))], [.inl (.int (-2 : Int32)), .inl (.ref q0)], h, 0, 0)))
        refine k_cVIH HG (E' := ze_X4_refuse) (Or.inl ⟨rfl, rfl⟩) hsc rfl rfl rfl rfl rfl K rfl (fun hh => x_X4_refuse hsc K.1 hq_q0 hh) (fun y9 K9 => (?_ : G m _ (56, [(6, .inl (.int y4)), (5, .inl (.ref (hr h (hr h q0 5) a1.toNatClampNeg))), (0, .inl (.ref q0)), (1, .inl (.int a1)), (2, .inl (.int a2)), (3, .inl (.long b3))], [.inl (.int y9.1)], y9.2, 0, 0)))
        exact k_reti HG rfl rfl (fun e1 e2 => hR _ _ e1 e2 K9)
    · show G m _ (34, [(6, .inl (.int y4)), (5, .inl (.ref (hr h (hr h q0 5) a1.toNatClampNeg))), (0, .inl (.ref q0)), (1, .inl (.int a1)), (2, .inl (.int a2)), (3, .inl (.long b3))], [], h, 0, 0)
      refine k_steps HG 2 (zB_iff.mpr (?_ : G m _ (37, [(6, .inl (.int y4)), (5, .inl (.ref (hr h (hr h q0 5) a1.toNatClampNeg))), (0, .inl (.ref q0)), (1, .inl (.int a1)), (2, .inl (.int a2)), (3, .inl (.long b3))], [.inl (.int y4), .inl (.ref q0)], h, 0, 0)))
      refine k_cVIH HG (E' := ze_X4_refuse) (Or.inl ⟨rfl, rfl⟩) hsc rfl rfl rfl rfl rfl K rfl (fun hh => x_X4_refuse hsc K.1 hq_q0 hh) (fun y10 K10 => (?_ : G m _ (40, [(6, .inl (.int y4)), (5, .inl (.ref (hr h (hr h q0 5) a1.toNatClampNeg))), (0, .inl (.ref q0)), (1, .inl (.int a1)), (2, .inl (.int a2)), (3, .inl (.long b3))], [.inl (.int y10.1)], y10.2, 0, 0)))
      exact k_reti HG rfl rfl (fun e1 e2 => hR _ _ e1 e2 K10)
  · show G m _ (7, [(0, .inl (.ref q0)), (1, .inl (.int a1)), (2, .inl (.int a2)), (3, .inl (.long b3))], [], h, 0, 0)
    refine k_steps HG 2 (zB_iff.mpr (?_ : G m _ (10, [(0, .inl (.ref q0)), (1, .inl (.int a1)), (2, .inl (.int a2)), (3, .inl (.long b3))], [.inl (.int (-2 : Int32)), .inl (.ref q0)], h, 0, 0)))
    refine k_cVIH HG (E' := ze_X4_refuse) (Or.inl ⟨rfl, rfl⟩) hsc rfl rfl rfl rfl rfl K rfl (fun hh => x_X4_refuse hsc K.1 hq_q0 hh) (fun y11 K11 => (?_ : G m _ (13, [(0, .inl (.ref q0)), (1, .inl (.int a1)), (2, .inl (.int a2)), (3, .inl (.long b3))], [.inl (.int y11.1)], y11.2, 0, 0)))
    exact k_reti HG rfl rfl (fun e1 e2 => hR _ _ e1 e2 K11)
def W_X4_slipOf : List (Nat × Nat) := [(23, 1000)]
noncomputable def F_X4_slipOf (h : zH) (q0 : Nat) (a1 : Int32) (a2 : Int32) : Int32 × zH := (letf (F_X1_isSlip h (hr h q0 0) a1) (fun y2 => (if y2 = (0 : Int32) then (letf (F_X4_refuse h q0 (-2 : Int32)) (fun y16 => (y16.1, y16.2))) else (if a2 = (0 : Int32) then (letf (F_X1_isIn h (hr h q0 0) a1) (fun y6 => (letf (F_X4_asNumber y6) (fun y7 => (y7, h))))) else (if a2 = (1 : Int32) then (letf (F_X1_isWinner h (hr h q0 0) a1) (fun y9 => (letf (F_X4_asNumber y9) (fun y10 => (y10, h))))) else (if a2 = (2 : Int32) then (letf (F_X1_canBeDrawn h (hr h q0 0) a1) (fun y12 => (letf (F_X4_asNumber y12) (fun y13 => (y13, h))))) else (if a2 = (3 : Int32) then (letf (F_X1_thingOn h (hr h q0 0) a1) (fun y15 => (y15, h))) else (letf (F_X4_refuse h q0 (-2 : Int32)) (fun y4 => (y4.1, y4.2))))))))))
theorem x_X4_slipOf {scr : List zV} {T : List Nat} {h : zH} {q0 : Nat} {a1 : Int32} {a2 : Int32} (hsc : cT scr) (K : hOK kty T h) (hq_q0 : T[q0]? = some 4) (hh : cH h) : xIH scr W_X4_slipOf T T 136 [.inl (.ref q0), .inl (.int a1), .inl (.int a2)] h (F_X4_slipOf h q0 a1 a2) := by
  refine xIH_intro (E := ze_X4_slipOf) hsc rfl (cTb_ok rfl) hh (fun d r h' G HG Pf hR m => ?_)
  have K := kOK_refl (W := W_X4_slipOf) K
  unfold F_X4_slipOf
  show G m _ (0, [(0, .inl (.ref q0)), (1, .inl (.int a1)), (2, .inl (.int a2))], [], h, 0, 0)
  refine k_steps HG 1 (zB_iff.mpr (?_ : G m _ (1, [(0, .inl (.ref q0)), (1, .inl (.int a1)), (2, .inl (.int a2))], [.inl (.ref q0)], h, 0, 0)))
  refine k_getR HG rfl K hq_q0 rfl (Nat.le_of_ble_eq_true rfl) rfl rfl (fun t1 => (?_ : G m _ (4, [(0, .inl (.ref q0)), (1, .inl (.int a1)), (2, .inl (.int a2))], [.inl (.ref (hr h q0 0))], h, 0, 0)))
  refine k_steps HG 1 (zB_iff.mpr (?_ : G m _ (5, [(0, .inl (.ref q0)), (1, .inl (.int a1)), (2, .inl (.int a2))], [.inl (.int a1), .inl (.ref (hr h q0 0))], h, 0, 0)))
  refine k_cVI HG (E' := ze_X1_isSlip) (Or.inl ⟨rfl, rfl⟩) hsc rfl rfl rfl rfl rfl (fun hh => x_X1_isSlip hsc K.1 t1 hh) (fun y2 => (?_ : G m _ (8, [(0, .inl (.ref q0)), (1, .inl (.int a1)), (2, .inl (.int a2))], [.inl (.int y2)], h, 0, 0)))
  refine k_steps HG 1 (kb_ne (x := y2) (y := (0 : Int32)) ?_ ?_)
  · show G m _ (18, [(0, .inl (.ref q0)), (1, .inl (.int a1)), (2, .inl (.int a2))], [], h, 0, 0)
    refine k_steps HG 1 (zB_iff.mpr (?_ : G m _ (19, [(0, .inl (.ref q0)), (1, .inl (.int a1)), (2, .inl (.int a2))], [.inl (.int a2)], h, 0, 0)))
    refine g_tsw (k_walk HG) (d := 74) (lo := 0) (hi := 3) (offs := #[29, 41, 53, 65]) rfl (x := a2) rfl (fun hs3 => zB_iff.mpr ?_) (And.intro (fun hs3 => zB_iff.mpr ?_) (And.intro (fun hs3 => zB_iff.mpr ?_) (And.intro (fun hs3 => zB_iff.mpr ?_) (And.intro (fun hs3 => zB_iff.mpr ?_) trivial))))
    · show G m _ (93, [(0, .inl (.ref q0)), (1, .inl (.int a1)), (2, .inl (.int a2))], [], h, 0, 0)
      refine k_neg (k_swn (lo := 0) (hi := 3) hs3 (by decide)) ?_
      refine k_neg (k_swn (lo := 0) (hi := 3) hs3 (by decide)) ?_
      refine k_neg (k_swn (lo := 0) (hi := 3) hs3 (by decide)) ?_
      refine k_neg (k_swn (lo := 0) (hi := 3) hs3 (by decide)) ?_
      refine k_steps HG 2 (zB_iff.mpr (?_ : G m _ (96, [(0, .inl (.ref q0)), (1, .inl (.int a1)), (2, .inl (.int a2))], [.inl (.int (-2 : Int32)), .inl (.ref q0)], h, 0, 0)))
      refine k_cVIH HG (E' := ze_X4_refuse) (Or.inl ⟨rfl, rfl⟩) hsc rfl rfl rfl rfl rfl K rfl (fun hh => x_X4_refuse hsc K.1 hq_q0 hh) (fun y4 K4 => (?_ : G m _ (99, [(0, .inl (.ref q0)), (1, .inl (.int a1)), (2, .inl (.int a2))], [.inl (.int y4.1)], y4.2, 0, 0)))
      exact k_reti HG rfl rfl (fun e1 e2 => hR _ _ e1 e2 K4)
    · show G m _ (48, [(0, .inl (.ref q0)), (1, .inl (.int a1)), (2, .inl (.int a2))], [], h, 0, 0)
      have hs3 : a2 = (0 : Int32) := k_sw hs3 rfl
      refine k_pos hs3 ?_
      refine k_steps HG 1 (zB_iff.mpr (?_ : G m _ (49, [(0, .inl (.ref q0)), (1, .inl (.int a1)), (2, .inl (.int a2))], [.inl (.ref q0)], h, 0, 0)))
      refine k_getR HG rfl K hq_q0 rfl (Nat.le_of_ble_eq_true rfl) rfl rfl (fun t5 => (?_ : G m _ (52, [(0, .inl (.ref q0)), (1, .inl (.int a1)), (2, .inl (.int a2))], [.inl (.ref (hr h q0 0))], h, 0, 0)))
      refine k_steps HG 1 (zB_iff.mpr (?_ : G m _ (53, [(0, .inl (.ref q0)), (1, .inl (.int a1)), (2, .inl (.int a2))], [.inl (.int a1), .inl (.ref (hr h q0 0))], h, 0, 0)))
      refine k_cVI HG (E' := ze_X1_isIn) (Or.inl ⟨rfl, rfl⟩) hsc rfl rfl rfl rfl rfl (fun hh => x_X1_isIn hsc K.1 t5 hh) (fun y6 => (?_ : G m _ (56, [(0, .inl (.ref q0)), (1, .inl (.int a1)), (2, .inl (.int a2))], [.inl (.int y6)], h, 0, 0)))
      refine k_cSI HG (E' := ze_X4_asNumber) (Or.inl rfl) hsc rfl rfl rfl rfl (fun hh => x_X4_asNumber hsc hh) (fun y7 => (?_ : G m _ (59, [(0, .inl (.ref q0)), (1, .inl (.int a1)), (2, .inl (.int a2))], [.inl (.int y7)], h, 0, 0)))
      exact k_reti HG rfl rfl (fun e1 e2 => hR _ _ e1 e2 K)
    · show G m _ (60, [(0, .inl (.ref q0)), (1, .inl (.int a1)), (2, .inl (.int a2))], [], h, 0, 0)
      have hs3 : a2 = (1 : Int32) := k_sw hs3 rfl
      refine k_neg (by rw [hs3]; decide) ?_
      refine k_pos hs3 ?_
      refine k_steps HG 1 (zB_iff.mpr (?_ : G m _ (61, [(0, .inl (.ref q0)), (1, .inl (.int a1)), (2, .inl (.int a2))], [.inl (.ref q0)], h, 0, 0)))
      refine k_getR HG rfl K hq_q0 rfl (Nat.le_of_ble_eq_true rfl) rfl rfl (fun t8 => (?_ : G m _ (64, [(0, .inl (.ref q0)), (1, .inl (.int a1)), (2, .inl (.int a2))], [.inl (.ref (hr h q0 0))], h, 0, 0)))
      refine k_steps HG 1 (zB_iff.mpr (?_ : G m _ (65, [(0, .inl (.ref q0)), (1, .inl (.int a1)), (2, .inl (.int a2))], [.inl (.int a1), .inl (.ref (hr h q0 0))], h, 0, 0)))
      refine k_cVI HG (E' := ze_X1_isWinner) (Or.inl ⟨rfl, rfl⟩) hsc rfl rfl rfl rfl rfl (fun hh => x_X1_isWinner hsc K.1 t8 hh) (fun y9 => (?_ : G m _ (68, [(0, .inl (.ref q0)), (1, .inl (.int a1)), (2, .inl (.int a2))], [.inl (.int y9)], h, 0, 0)))
      refine k_cSI HG (E' := ze_X4_asNumber) (Or.inl rfl) hsc rfl rfl rfl rfl (fun hh => x_X4_asNumber hsc hh) (fun y10 => (?_ : G m _ (71, [(0, .inl (.ref q0)), (1, .inl (.int a1)), (2, .inl (.int a2))], [.inl (.int y10)], h, 0, 0)))
      exact k_reti HG rfl rfl (fun e1 e2 => hR _ _ e1 e2 K)
    · show G m _ (72, [(0, .inl (.ref q0)), (1, .inl (.int a1)), (2, .inl (.int a2))], [], h, 0, 0)
      have hs3 : a2 = (2 : Int32) := k_sw hs3 rfl
      refine k_neg (by rw [hs3]; decide) ?_
      refine k_neg (by rw [hs3]; decide) ?_
      refine k_pos hs3 ?_
      refine k_steps HG 1 (zB_iff.mpr (?_ : G m _ (73, [(0, .inl (.ref q0)), (1, .inl (.int a1)), (2, .inl (.int a2))], [.inl (.ref q0)], h, 0, 0)))
      refine k_getR HG rfl K hq_q0 rfl (Nat.le_of_ble_eq_true rfl) rfl rfl (fun t11 => (?_ : G m _ (76, [(0, .inl (.ref q0)), (1, .inl (.int a1)), (2, .inl (.int a2))], [.inl (.ref (hr h q0 0))], h, 0, 0)))
      refine k_steps HG 1 (zB_iff.mpr (?_ : G m _ (77, [(0, .inl (.ref q0)), (1, .inl (.int a1)), (2, .inl (.int a2))], [.inl (.int a1), .inl (.ref (hr h q0 0))], h, 0, 0)))
      refine k_cVI HG (E' := ze_X1_canBeDrawn) (Or.inl ⟨rfl, rfl⟩) hsc rfl rfl rfl rfl rfl (fun hh => x_X1_canBeDrawn hsc K.1 t11 hh) (fun y12 => (?_ : G m _ (80, [(0, .inl (.ref q0)), (1, .inl (.int a1)), (2, .inl (.int a2))], [.inl (.int y12)], h, 0, 0)))
      refine k_cSI HG (E' := ze_X4_asNumber) (Or.inl rfl) hsc rfl rfl rfl rfl (fun hh => x_X4_asNumber hsc hh) (fun y13 => (?_ : G m _ (83, [(0, .inl (.ref q0)), (1, .inl (.int a1)), (2, .inl (.int a2))], [.inl (.int y13)], h, 0, 0)))
      exact k_reti HG rfl rfl (fun e1 e2 => hR _ _ e1 e2 K)
    · show G m _ (84, [(0, .inl (.ref q0)), (1, .inl (.int a1)), (2, .inl (.int a2))], [], h, 0, 0)
      have hs3 : a2 = (3 : Int32) := k_sw hs3 rfl
      refine k_neg (by rw [hs3]; decide) ?_
      refine k_neg (by rw [hs3]; decide) ?_
      refine k_neg (by rw [hs3]; decide) ?_
      refine k_pos hs3 ?_
      refine k_steps HG 1 (zB_iff.mpr (?_ : G m _ (85, [(0, .inl (.ref q0)), (1, .inl (.int a1)), (2, .inl (.int a2))], [.inl (.ref q0)], h, 0, 0)))
      refine k_getR HG rfl K hq_q0 rfl (Nat.le_of_ble_eq_true rfl) rfl rfl (fun t14 => (?_ : G m _ (88, [(0, .inl (.ref q0)), (1, .inl (.int a1)), (2, .inl (.int a2))], [.inl (.ref (hr h q0 0))], h, 0, 0)))
      refine k_steps HG 1 (zB_iff.mpr (?_ : G m _ (89, [(0, .inl (.ref q0)), (1, .inl (.int a1)), (2, .inl (.int a2))], [.inl (.int a1), .inl (.ref (hr h q0 0))], h, 0, 0)))
      refine k_cVI HG (E' := ze_X1_thingOn) (Or.inl ⟨rfl, rfl⟩) hsc rfl rfl rfl rfl rfl (fun hh => x_X1_thingOn hsc K.1 t14 hh) (fun y15 => (?_ : G m _ (92, [(0, .inl (.ref q0)), (1, .inl (.int a1)), (2, .inl (.int a2))], [.inl (.int y15)], h, 0, 0)))
      exact k_reti HG rfl rfl (fun e1 e2 => hR _ _ e1 e2 K)
  · show G m _ (11, [(0, .inl (.ref q0)), (1, .inl (.int a1)), (2, .inl (.int a2))], [], h, 0, 0)
    refine k_steps HG 2 (zB_iff.mpr (?_ : G m _ (14, [(0, .inl (.ref q0)), (1, .inl (.int a1)), (2, .inl (.int a2))], [.inl (.int (-2 : Int32)), .inl (.ref q0)], h, 0, 0)))
    refine k_cVIH HG (E' := ze_X4_refuse) (Or.inl ⟨rfl, rfl⟩) hsc rfl rfl rfl rfl rfl K rfl (fun hh => x_X4_refuse hsc K.1 hq_q0 hh) (fun y16 K16 => (?_ : G m _ (17, [(0, .inl (.ref q0)), (1, .inl (.int a1)), (2, .inl (.int a2))], [.inl (.int y16.1)], y16.2, 0, 0)))
    exact k_reti HG rfl rfl (fun e1 e2 => hR _ _ e1 e2 K16)
noncomputable def F_X4_status (h : zH) (q0 : Nat) (a1 : Int32) : Int32 := (if a1 = (0 : Int32) then (hv h (hr h q0 0) 0) else (if a1 = (1 : Int32) then (hv h (hr h q0 0) 1) else (if a1 = (2 : Int32) then (letf (F_X1_countIn h (hr h q0 0)) (fun y7 => y7)) else (if a1 = (3 : Int32) then (hv h (hr h q0 0) 4) else (if a1 = (4 : Int32) then (hv h (hr h q0 0) 8) else (if a1 = (5 : Int32) then (letf (F_X1_standing h (hr h q0 0)) (fun y11 => y11)) else (if a1 = (6 : Int32) then (hv h (hr h q0 0) 14) else (if a1 = (7 : Int32) then (hv h (hr h q0 0) 5) else (if a1 = (8 : Int32) then (hv h (hr h q0 4) 1) else (if a1 = (9 : Int32) then (hv h (hr h q0 0) 6) else (if a1 = (10 : Int32) then (letf (F_X4_countShelvesInUse h q0) (fun y16 => y16)) else (if a1 = (11 : Int32) then (letf (F_X1_countDrawable h (hr h q0 0)) (fun y18 => y18)) else (letf (F_X4_isWithin a1 (12 : Int32) (16 : Int32)) (fun y2 => (if y2 = (0 : Int32) then (-1 : Int32) else (hv h (hr h q0 6) (a1 - (12 : Int32)).toNatClampNeg))))))))))))))))
theorem x_X4_status {scr : List zV} {T : List Nat} {h : zH} {q0 : Nat} {a1 : Int32} (hsc : cT scr) (K : hOK kty T h) (hq_q0 : T[q0]? = some 4) (hh : cH h) : xI scr 139 [.inl (.ref q0), .inl (.int a1)] h (F_X4_status h q0 a1) := by
  refine xI_intro (E := ze_X4_status) hsc rfl (cTb_ok rfl) hh (fun d r h' G HG Pf hR m => ?_)
  have K := kOK_refl (W := []) K
  unfold F_X4_status
  show G m _ (0, [(0, .inl (.ref q0)), (1, .inl (.int a1))], [], h, 0, 0)
  refine k_steps HG 1 (zB_iff.mpr (?_ : G m _ (1, [(0, .inl (.ref q0)), (1, .inl (.int a1))], [.inl (.int a1)], h, 0, 0)))
  refine g_tsw (k_walk HG) (d := 156) (lo := 0) (hi := 11) (offs := #[63, 71, 79, 87, 95, 103, 111, 119, 127, 135, 143, 148]) rfl (x := a1) rfl (fun hs1 => zB_iff.mpr ?_) (And.intro (fun hs1 => zB_iff.mpr ?_) (And.intro (fun hs1 => zB_iff.mpr ?_) (And.intro (fun hs1 => zB_iff.mpr ?_) (And.intro (fun hs1 => zB_iff.mpr ?_) (And.intro (fun hs1 => zB_iff.mpr ?_) (And.intro (fun hs1 => zB_iff.mpr ?_) (And.intro (fun hs1 => zB_iff.mpr ?_) (And.intro (fun hs1 => zB_iff.mpr ?_) (And.intro (fun hs1 => zB_iff.mpr ?_) (And.intro (fun hs1 => zB_iff.mpr ?_) (And.intro (fun hs1 => zB_iff.mpr ?_) (And.intro (fun hs1 => zB_iff.mpr ?_) trivial))))))))))))
  · show G m _ (157, [(0, .inl (.ref q0)), (1, .inl (.int a1))], [], h, 0, 0)
    refine k_neg (k_swn (lo := 0) (hi := 11) hs1 (by decide)) ?_
    refine k_neg (k_swn (lo := 0) (hi := 11) hs1 (by decide)) ?_
    refine k_neg (k_swn (lo := 0) (hi := 11) hs1 (by decide)) ?_
    refine k_neg (k_swn (lo := 0) (hi := 11) hs1 (by decide)) ?_
    refine k_neg (k_swn (lo := 0) (hi := 11) hs1 (by decide)) ?_
    refine k_neg (k_swn (lo := 0) (hi := 11) hs1 (by decide)) ?_
    refine k_neg (k_swn (lo := 0) (hi := 11) hs1 (by decide)) ?_
    refine k_neg (k_swn (lo := 0) (hi := 11) hs1 (by decide)) ?_
    refine k_neg (k_swn (lo := 0) (hi := 11) hs1 (by decide)) ?_
    refine k_neg (k_swn (lo := 0) (hi := 11) hs1 (by decide)) ?_
    refine k_neg (k_swn (lo := 0) (hi := 11) hs1 (by decide)) ?_
    refine k_neg (k_swn (lo := 0) (hi := 11) hs1 (by decide)) ?_
    refine k_steps HG 3 (zB_iff.mpr (?_ : G m _ (162, [(0, .inl (.ref q0)), (1, .inl (.int a1))], [.inl (.int (16 : Int32)), .inl (.int (12 : Int32)), .inl (.int a1)], h, 0, 0)))
    refine k_cSI HG (E' := ze_X4_isWithin) (Or.inl rfl) hsc rfl rfl rfl rfl (fun hh => x_X4_isWithin hsc hh) (fun y2 => (?_ : G m _ (165, [(0, .inl (.ref q0)), (1, .inl (.int a1))], [.inl (.int y2)], h, 0, 0)))
    refine k_steps HG 1 (kb_eq (x := y2) (y := (0 : Int32)) ?_ ?_)
    · show G m _ (180, [(0, .inl (.ref q0)), (1, .inl (.int a1))], [], h, 0, 0)
      refine k_steps HG 1 (zB_iff.mpr (?_ : G m _ (181, [(0, .inl (.ref q0)), (1, .inl (.int a1))], [.inl (.int (-1 : Int32))], h, 0, 0)))
      exact k_reti HG rfl rfl (fun e1 e2 => hR _ e1 e2)
    · show G m _ (168, [(0, .inl (.ref q0)), (1, .inl (.int a1))], [], h, 0, 0)
      refine k_steps HG 1 (zB_iff.mpr (?_ : G m _ (169, [(0, .inl (.ref q0)), (1, .inl (.int a1))], [.inl (.ref q0)], h, 0, 0)))
      refine k_getR HG rfl K hq_q0 rfl (Nat.le_of_ble_eq_true rfl) rfl rfl (fun t3 => (?_ : G m _ (172, [(0, .inl (.ref q0)), (1, .inl (.int a1))], [.inl (.ref (hr h q0 6))], h, 0, 0)))
      refine k_steps HG 3 (zB_iff.mpr (?_ : G m _ (176, [(0, .inl (.ref q0)), (1, .inl (.int a1))], [.inl (.int (a1 - (12 : Int32))), .inl (.ref (hr h q0 6))], h, 0, 0)))
      refine k_iald HG rfl K t3 rfl (fun _ => rfl) (?_ : G m _ (177, [(0, .inl (.ref q0)), (1, .inl (.int a1))], [.inl (.int (hv h (hr h q0 6) (a1 - (12 : Int32)).toNatClampNeg))], h, 0, 0))
      refine k_steps HG 1 (zB_iff.mpr (?_ : G m _ (181, [(0, .inl (.ref q0)), (1, .inl (.int a1))], [.inl (.int (hv h (hr h q0 6) (a1 - (12 : Int32)).toNatClampNeg))], h, 0, 0)))
      exact k_reti HG rfl rfl (fun e1 e2 => hR _ e1 e2)
  · show G m _ (64, [(0, .inl (.ref q0)), (1, .inl (.int a1))], [], h, 0, 0)
    have hs1 : a1 = (0 : Int32) := k_sw hs1 rfl
    refine k_pos hs1 ?_
    refine k_steps HG 1 (zB_iff.mpr (?_ : G m _ (65, [(0, .inl (.ref q0)), (1, .inl (.int a1))], [.inl (.ref q0)], h, 0, 0)))
    refine k_getR HG rfl K hq_q0 rfl (Nat.le_of_ble_eq_true rfl) rfl rfl (fun t4 => (?_ : G m _ (68, [(0, .inl (.ref q0)), (1, .inl (.int a1))], [.inl (.ref (hr h q0 0))], h, 0, 0)))
    refine k_getI HG rfl K t4 rfl (Nat.le_of_ble_eq_true rfl) rfl (?_ : G m _ (71, [(0, .inl (.ref q0)), (1, .inl (.int a1))], [.inl (.int (hv h (hr h q0 0) 0))], h, 0, 0))
    exact k_reti HG rfl rfl (fun e1 e2 => hR _ e1 e2)
  · show G m _ (72, [(0, .inl (.ref q0)), (1, .inl (.int a1))], [], h, 0, 0)
    have hs1 : a1 = (1 : Int32) := k_sw hs1 rfl
    refine k_neg (by rw [hs1]; decide) ?_
    refine k_pos hs1 ?_
    refine k_steps HG 1 (zB_iff.mpr (?_ : G m _ (73, [(0, .inl (.ref q0)), (1, .inl (.int a1))], [.inl (.ref q0)], h, 0, 0)))
    refine k_getR HG rfl K hq_q0 rfl (Nat.le_of_ble_eq_true rfl) rfl rfl (fun t5 => (?_ : G m _ (76, [(0, .inl (.ref q0)), (1, .inl (.int a1))], [.inl (.ref (hr h q0 0))], h, 0, 0)))
    refine k_getI HG rfl K t5 rfl (Nat.le_of_ble_eq_true rfl) rfl (?_ : G m _ (79, [(0, .inl (.ref q0)), (1, .inl (.int a1))], [.inl (.int (hv h (hr h q0 0) 1))], h, 0, 0))
    exact k_reti HG rfl rfl (fun e1 e2 => hR _ e1 e2)
  · show G m _ (80, [(0, .inl (.ref q0)), (1, .inl (.int a1))], [], h, 0, 0)
    have hs1 : a1 = (2 : Int32) := k_sw hs1 rfl
    refine k_neg (by rw [hs1]; decide) ?_
    refine k_neg (by rw [hs1]; decide) ?_
    refine k_pos hs1 ?_
    refine k_steps HG 1 (zB_iff.mpr (?_ : G m _ (81, [(0, .inl (.ref q0)), (1, .inl (.int a1))], [.inl (.ref q0)], h, 0, 0)))
    refine k_getR HG rfl K hq_q0 rfl (Nat.le_of_ble_eq_true rfl) rfl rfl (fun t6 => (?_ : G m _ (84, [(0, .inl (.ref q0)), (1, .inl (.int a1))], [.inl (.ref (hr h q0 0))], h, 0, 0)))
    refine k_cVI HG (E' := ze_X1_countIn) (Or.inl ⟨rfl, rfl⟩) hsc rfl rfl rfl rfl rfl (fun hh => x_X1_countIn hsc K.1 t6 hh) (fun y7 => (?_ : G m _ (87, [(0, .inl (.ref q0)), (1, .inl (.int a1))], [.inl (.int y7)], h, 0, 0)))
    exact k_reti HG rfl rfl (fun e1 e2 => hR _ e1 e2)
  · show G m _ (88, [(0, .inl (.ref q0)), (1, .inl (.int a1))], [], h, 0, 0)
    have hs1 : a1 = (3 : Int32) := k_sw hs1 rfl
    refine k_neg (by rw [hs1]; decide) ?_
    refine k_neg (by rw [hs1]; decide) ?_
    refine k_neg (by rw [hs1]; decide) ?_
    refine k_pos hs1 ?_
    refine k_steps HG 1 (zB_iff.mpr (?_ : G m _ (89, [(0, .inl (.ref q0)), (1, .inl (.int a1))], [.inl (.ref q0)], h, 0, 0)))
    refine k_getR HG rfl K hq_q0 rfl (Nat.le_of_ble_eq_true rfl) rfl rfl (fun t8 => (?_ : G m _ (92, [(0, .inl (.ref q0)), (1, .inl (.int a1))], [.inl (.ref (hr h q0 0))], h, 0, 0)))
    refine k_getI HG rfl K t8 rfl (Nat.le_of_ble_eq_true rfl) rfl (?_ : G m _ (95, [(0, .inl (.ref q0)), (1, .inl (.int a1))], [.inl (.int (hv h (hr h q0 0) 4))], h, 0, 0))
    exact k_reti HG rfl rfl (fun e1 e2 => hR _ e1 e2)
  · show G m _ (96, [(0, .inl (.ref q0)), (1, .inl (.int a1))], [], h, 0, 0)
    have hs1 : a1 = (4 : Int32) := k_sw hs1 rfl
    refine k_neg (by rw [hs1]; decide) ?_
    refine k_neg (by rw [hs1]; decide) ?_
    refine k_neg (by rw [hs1]; decide) ?_
    refine k_neg (by rw [hs1]; decide) ?_
    refine k_pos hs1 ?_
    refine k_steps HG 1 (zB_iff.mpr (?_ : G m _ (97, [(0, .inl (.ref q0)), (1, .inl (.int a1))], [.inl (.ref q0)], h, 0, 0)))
    refine k_getR HG rfl K hq_q0 rfl (Nat.le_of_ble_eq_true rfl) rfl rfl (fun t9 => (?_ : G m _ (100, [(0, .inl (.ref q0)), (1, .inl (.int a1))], [.inl (.ref (hr h q0 0))], h, 0, 0)))
    refine k_getI HG rfl K t9 rfl (Nat.le_of_ble_eq_true rfl) rfl (?_ : G m _ (103, [(0, .inl (.ref q0)), (1, .inl (.int a1))], [.inl (.int (hv h (hr h q0 0) 8))], h, 0, 0))
    exact k_reti HG rfl rfl (fun e1 e2 => hR _ e1 e2)
  · show G m _ (104, [(0, .inl (.ref q0)), (1, .inl (.int a1))], [], h, 0, 0)
    have hs1 : a1 = (5 : Int32) := k_sw hs1 rfl
    refine k_neg (by rw [hs1]; decide) ?_
    refine k_neg (by rw [hs1]; decide) ?_
    refine k_neg (by rw [hs1]; decide) ?_
    refine k_neg (by rw [hs1]; decide) ?_
    refine k_neg (by rw [hs1]; decide) ?_
    refine k_pos hs1 ?_
    refine k_steps HG 1 (zB_iff.mpr (?_ : G m _ (105, [(0, .inl (.ref q0)), (1, .inl (.int a1))], [.inl (.ref q0)], h, 0, 0)))
    refine k_getR HG rfl K hq_q0 rfl (Nat.le_of_ble_eq_true rfl) rfl rfl (fun t10 => (?_ : G m _ (108, [(0, .inl (.ref q0)), (1, .inl (.int a1))], [.inl (.ref (hr h q0 0))], h, 0, 0)))
    refine k_cVI HG (E' := ze_X1_standing) (Or.inl ⟨rfl, rfl⟩) hsc rfl rfl rfl rfl rfl (fun hh => x_X1_standing hsc K.1 t10 hh) (fun y11 => (?_ : G m _ (111, [(0, .inl (.ref q0)), (1, .inl (.int a1))], [.inl (.int y11)], h, 0, 0)))
    exact k_reti HG rfl rfl (fun e1 e2 => hR _ e1 e2)
  · show G m _ (112, [(0, .inl (.ref q0)), (1, .inl (.int a1))], [], h, 0, 0)
    have hs1 : a1 = (6 : Int32) := k_sw hs1 rfl
    refine k_neg (by rw [hs1]; decide) ?_
    refine k_neg (by rw [hs1]; decide) ?_
    refine k_neg (by rw [hs1]; decide) ?_
    refine k_neg (by rw [hs1]; decide) ?_
    refine k_neg (by rw [hs1]; decide) ?_
    refine k_neg (by rw [hs1]; decide) ?_
    refine k_pos hs1 ?_
    refine k_steps HG 1 (zB_iff.mpr (?_ : G m _ (113, [(0, .inl (.ref q0)), (1, .inl (.int a1))], [.inl (.ref q0)], h, 0, 0)))
    refine k_getR HG rfl K hq_q0 rfl (Nat.le_of_ble_eq_true rfl) rfl rfl (fun t12 => (?_ : G m _ (116, [(0, .inl (.ref q0)), (1, .inl (.int a1))], [.inl (.ref (hr h q0 0))], h, 0, 0)))
    refine k_getI HG rfl K t12 rfl (Nat.le_of_ble_eq_true rfl) rfl (?_ : G m _ (119, [(0, .inl (.ref q0)), (1, .inl (.int a1))], [.inl (.int (hv h (hr h q0 0) 14))], h, 0, 0))
    exact k_reti HG rfl rfl (fun e1 e2 => hR _ e1 e2)
  · show G m _ (120, [(0, .inl (.ref q0)), (1, .inl (.int a1))], [], h, 0, 0)
    have hs1 : a1 = (7 : Int32) := k_sw hs1 rfl
    refine k_neg (by rw [hs1]; decide) ?_
    refine k_neg (by rw [hs1]; decide) ?_
    refine k_neg (by rw [hs1]; decide) ?_
    refine k_neg (by rw [hs1]; decide) ?_
    refine k_neg (by rw [hs1]; decide) ?_
    refine k_neg (by rw [hs1]; decide) ?_
    refine k_neg (by rw [hs1]; decide) ?_
    refine k_pos hs1 ?_
    refine k_steps HG 1 (zB_iff.mpr (?_ : G m _ (121, [(0, .inl (.ref q0)), (1, .inl (.int a1))], [.inl (.ref q0)], h, 0, 0)))
    refine k_getR HG rfl K hq_q0 rfl (Nat.le_of_ble_eq_true rfl) rfl rfl (fun t13 => (?_ : G m _ (124, [(0, .inl (.ref q0)), (1, .inl (.int a1))], [.inl (.ref (hr h q0 0))], h, 0, 0)))
    refine k_getI HG rfl K t13 rfl (Nat.le_of_ble_eq_true rfl) rfl (?_ : G m _ (127, [(0, .inl (.ref q0)), (1, .inl (.int a1))], [.inl (.int (hv h (hr h q0 0) 5))], h, 0, 0))
    exact k_reti HG rfl rfl (fun e1 e2 => hR _ e1 e2)
  · show G m _ (128, [(0, .inl (.ref q0)), (1, .inl (.int a1))], [], h, 0, 0)
    have hs1 : a1 = (8 : Int32) := k_sw hs1 rfl
    refine k_neg (by rw [hs1]; decide) ?_
    refine k_neg (by rw [hs1]; decide) ?_
    refine k_neg (by rw [hs1]; decide) ?_
    refine k_neg (by rw [hs1]; decide) ?_
    refine k_neg (by rw [hs1]; decide) ?_
    refine k_neg (by rw [hs1]; decide) ?_
    refine k_neg (by rw [hs1]; decide) ?_
    refine k_neg (by rw [hs1]; decide) ?_
    refine k_pos hs1 ?_
    refine k_steps HG 1 (zB_iff.mpr (?_ : G m _ (129, [(0, .inl (.ref q0)), (1, .inl (.int a1))], [.inl (.ref q0)], h, 0, 0)))
    refine k_getR HG rfl K hq_q0 rfl (Nat.le_of_ble_eq_true rfl) rfl rfl (fun t14 => (?_ : G m _ (132, [(0, .inl (.ref q0)), (1, .inl (.int a1))], [.inl (.ref (hr h q0 4))], h, 0, 0)))
    refine k_getI HG rfl K t14 rfl (Nat.le_of_ble_eq_true rfl) rfl (?_ : G m _ (135, [(0, .inl (.ref q0)), (1, .inl (.int a1))], [.inl (.int (hv h (hr h q0 4) 1))], h, 0, 0))
    exact k_reti HG rfl rfl (fun e1 e2 => hR _ e1 e2)
  · show G m _ (136, [(0, .inl (.ref q0)), (1, .inl (.int a1))], [], h, 0, 0)
    have hs1 : a1 = (9 : Int32) := k_sw hs1 rfl
    refine k_neg (by rw [hs1]; decide) ?_
    refine k_neg (by rw [hs1]; decide) ?_
    refine k_neg (by rw [hs1]; decide) ?_
    refine k_neg (by rw [hs1]; decide) ?_
    refine k_neg (by rw [hs1]; decide) ?_
    refine k_neg (by rw [hs1]; decide) ?_
    refine k_neg (by rw [hs1]; decide) ?_
    refine k_neg (by rw [hs1]; decide) ?_
    refine k_neg (by rw [hs1]; decide) ?_
    refine k_pos hs1 ?_
    refine k_steps HG 1 (zB_iff.mpr (?_ : G m _ (137, [(0, .inl (.ref q0)), (1, .inl (.int a1))], [.inl (.ref q0)], h, 0, 0)))
    refine k_getR HG rfl K hq_q0 rfl (Nat.le_of_ble_eq_true rfl) rfl rfl (fun t15 => (?_ : G m _ (140, [(0, .inl (.ref q0)), (1, .inl (.int a1))], [.inl (.ref (hr h q0 0))], h, 0, 0)))
    refine k_getI HG rfl K t15 rfl (Nat.le_of_ble_eq_true rfl) rfl (?_ : G m _ (143, [(0, .inl (.ref q0)), (1, .inl (.int a1))], [.inl (.int (hv h (hr h q0 0) 6))], h, 0, 0))
    exact k_reti HG rfl rfl (fun e1 e2 => hR _ e1 e2)
  · show G m _ (144, [(0, .inl (.ref q0)), (1, .inl (.int a1))], [], h, 0, 0)
    have hs1 : a1 = (10 : Int32) := k_sw hs1 rfl
    refine k_neg (by rw [hs1]; decide) ?_
    refine k_neg (by rw [hs1]; decide) ?_
    refine k_neg (by rw [hs1]; decide) ?_
    refine k_neg (by rw [hs1]; decide) ?_
    refine k_neg (by rw [hs1]; decide) ?_
    refine k_neg (by rw [hs1]; decide) ?_
    refine k_neg (by rw [hs1]; decide) ?_
    refine k_neg (by rw [hs1]; decide) ?_
    refine k_neg (by rw [hs1]; decide) ?_
    refine k_neg (by rw [hs1]; decide) ?_
    refine k_pos hs1 ?_
    refine k_steps HG 1 (zB_iff.mpr (?_ : G m _ (145, [(0, .inl (.ref q0)), (1, .inl (.int a1))], [.inl (.ref q0)], h, 0, 0)))
    refine k_cVI HG (E' := ze_X4_countShelvesInUse) (Or.inl ⟨rfl, rfl⟩) hsc rfl rfl rfl rfl rfl (fun hh => x_X4_countShelvesInUse hsc K.1 hq_q0 hh) (fun y16 => (?_ : G m _ (148, [(0, .inl (.ref q0)), (1, .inl (.int a1))], [.inl (.int y16)], h, 0, 0)))
    exact k_reti HG rfl rfl (fun e1 e2 => hR _ e1 e2)
  · show G m _ (149, [(0, .inl (.ref q0)), (1, .inl (.int a1))], [], h, 0, 0)
    have hs1 : a1 = (11 : Int32) := k_sw hs1 rfl
    refine k_neg (by rw [hs1]; decide) ?_
    refine k_neg (by rw [hs1]; decide) ?_
    refine k_neg (by rw [hs1]; decide) ?_
    refine k_neg (by rw [hs1]; decide) ?_
    refine k_neg (by rw [hs1]; decide) ?_
    refine k_neg (by rw [hs1]; decide) ?_
    refine k_neg (by rw [hs1]; decide) ?_
    refine k_neg (by rw [hs1]; decide) ?_
    refine k_neg (by rw [hs1]; decide) ?_
    refine k_neg (by rw [hs1]; decide) ?_
    refine k_neg (by rw [hs1]; decide) ?_
    refine k_pos hs1 ?_
    refine k_steps HG 1 (zB_iff.mpr (?_ : G m _ (150, [(0, .inl (.ref q0)), (1, .inl (.int a1))], [.inl (.ref q0)], h, 0, 0)))
    refine k_getR HG rfl K hq_q0 rfl (Nat.le_of_ble_eq_true rfl) rfl rfl (fun t17 => (?_ : G m _ (153, [(0, .inl (.ref q0)), (1, .inl (.int a1))], [.inl (.ref (hr h q0 0))], h, 0, 0)))
    refine k_cVI HG (E' := ze_X1_countDrawable) (Or.inl ⟨rfl, rfl⟩) hsc rfl rfl rfl rfl rfl (fun hh => x_X1_countDrawable hsc K.1 t17 hh) (fun y18 => (?_ : G m _ (156, [(0, .inl (.ref q0)), (1, .inl (.int a1))], [.inl (.int y18)], h, 0, 0)))
    exact k_reti HG rfl rfl (fun e1 e2 => hR _ e1 e2)
noncomputable def F_X4_wordOf (h : zH) (q0 : Nat) (a1 : Int32) (a2 : Int32) : Int32 := (if a2 = (1 : Int32) then (letf (F_X1_stands h (hr h q0 0) a1) (fun y5 => (letf (F_X4_asNumber y5) (fun y6 => y6)))) else (if a2 = (2 : Int32) then (hv h (hr h (hr h q0 0) 12) a1.toNatClampNeg) else (if a2 = (3 : Int32) then (letf (F_X1_firstBrought h (hr h q0 0)) (fun y10 => y10)) else (if a2 = (4 : Int32) then (letf (F_X1_goesToWait h (hr h q0 0) a1) (fun y12 => y12)) else (if a2 = (5 : Int32) then (letf (F_X1_slipsToSink h (hr h q0 0)) (fun y14 => y14)) else (letf (F_X1_likingByAll h (hr h q0 0) a1) (fun y3 => y3)))))))
theorem x_X4_wordOf {scr : List zV} {T : List Nat} {h : zH} {q0 : Nat} {a1 : Int32} {a2 : Int32} (hsc : cT scr) (K : hOK kty T h) (hq_q0 : T[q0]? = some 4) (hh : cH h) : xI scr 150 [.inl (.ref q0), .inl (.int a1), .inl (.int a2)] h (F_X4_wordOf h q0 a1 a2) := by
  refine xI_intro (E := ze_X4_wordOf) hsc rfl (cTb_ok rfl) hh (fun d r h' G HG Pf hR m => ?_)
  have K := kOK_refl (W := []) K
  unfold F_X4_wordOf
  show G m _ (0, [(0, .inl (.ref q0)), (1, .inl (.int a1)), (2, .inl (.int a2))], [], h, 0, 0)
  refine k_steps HG 1 (zB_iff.mpr (?_ : G m _ (1, [(0, .inl (.ref q0)), (1, .inl (.int a1)), (2, .inl (.int a2))], [.inl (.int a2)], h, 0, 0)))
  refine g_tsw (k_walk HG) (d := 82) (lo := 1) (hi := 5) (offs := #[35, 47, 57, 65, 74]) rfl (x := a2) rfl (fun hs1 => zB_iff.mpr ?_) (And.intro (fun hs1 => zB_iff.mpr ?_) (And.intro (fun hs1 => zB_iff.mpr ?_) (And.intro (fun hs1 => zB_iff.mpr ?_) (And.intro (fun hs1 => zB_iff.mpr ?_) (And.intro (fun hs1 => zB_iff.mpr ?_) trivial)))))
  · show G m _ (83, [(0, .inl (.ref q0)), (1, .inl (.int a1)), (2, .inl (.int a2))], [], h, 0, 0)
    refine k_neg (k_swn (lo := 1) (hi := 5) hs1 (by decide)) ?_
    refine k_neg (k_swn (lo := 1) (hi := 5) hs1 (by decide)) ?_
    refine k_neg (k_swn (lo := 1) (hi := 5) hs1 (by decide)) ?_
    refine k_neg (k_swn (lo := 1) (hi := 5) hs1 (by decide)) ?_
    refine k_neg (k_swn (lo := 1) (hi := 5) hs1 (by decide)) ?_
    refine k_steps HG 1 (zB_iff.mpr (?_ : G m _ (84, [(0, .inl (.ref q0)), (1, .inl (.int a1)), (2, .inl (.int a2))], [.inl (.ref q0)], h, 0, 0)))
    refine k_getR HG rfl K hq_q0 rfl (Nat.le_of_ble_eq_true rfl) rfl rfl (fun t2 => (?_ : G m _ (87, [(0, .inl (.ref q0)), (1, .inl (.int a1)), (2, .inl (.int a2))], [.inl (.ref (hr h q0 0))], h, 0, 0)))
    refine k_steps HG 1 (zB_iff.mpr (?_ : G m _ (88, [(0, .inl (.ref q0)), (1, .inl (.int a1)), (2, .inl (.int a2))], [.inl (.int a1), .inl (.ref (hr h q0 0))], h, 0, 0)))
    refine k_cVI HG (E' := ze_X1_likingByAll) (Or.inl ⟨rfl, rfl⟩) hsc rfl rfl rfl rfl rfl (fun hh => x_X1_likingByAll hsc K.1 t2 hh) (fun y3 => (?_ : G m _ (91, [(0, .inl (.ref q0)), (1, .inl (.int a1)), (2, .inl (.int a2))], [.inl (.int y3)], h, 0, 0)))
    exact k_reti HG rfl rfl (fun e1 e2 => hR _ e1 e2)
  · show G m _ (36, [(0, .inl (.ref q0)), (1, .inl (.int a1)), (2, .inl (.int a2))], [], h, 0, 0)
    have hs1 : a2 = (1 : Int32) := k_sw hs1 rfl
    refine k_pos hs1 ?_
    refine k_steps HG 1 (zB_iff.mpr (?_ : G m _ (37, [(0, .inl (.ref q0)), (1, .inl (.int a1)), (2, .inl (.int a2))], [.inl (.ref q0)], h, 0, 0)))
    refine k_getR HG rfl K hq_q0 rfl (Nat.le_of_ble_eq_true rfl) rfl rfl (fun t4 => (?_ : G m _ (40, [(0, .inl (.ref q0)), (1, .inl (.int a1)), (2, .inl (.int a2))], [.inl (.ref (hr h q0 0))], h, 0, 0)))
    refine k_steps HG 1 (zB_iff.mpr (?_ : G m _ (41, [(0, .inl (.ref q0)), (1, .inl (.int a1)), (2, .inl (.int a2))], [.inl (.int a1), .inl (.ref (hr h q0 0))], h, 0, 0)))
    refine k_cVI HG (E' := ze_X1_stands) (Or.inl ⟨rfl, rfl⟩) hsc rfl rfl rfl rfl rfl (fun hh => x_X1_stands hsc K.1 t4 hh) (fun y5 => (?_ : G m _ (44, [(0, .inl (.ref q0)), (1, .inl (.int a1)), (2, .inl (.int a2))], [.inl (.int y5)], h, 0, 0)))
    refine k_cSI HG (E' := ze_X4_asNumber) (Or.inl rfl) hsc rfl rfl rfl rfl (fun hh => x_X4_asNumber hsc hh) (fun y6 => (?_ : G m _ (47, [(0, .inl (.ref q0)), (1, .inl (.int a1)), (2, .inl (.int a2))], [.inl (.int y6)], h, 0, 0)))
    exact k_reti HG rfl rfl (fun e1 e2 => hR _ e1 e2)
  · show G m _ (48, [(0, .inl (.ref q0)), (1, .inl (.int a1)), (2, .inl (.int a2))], [], h, 0, 0)
    have hs1 : a2 = (2 : Int32) := k_sw hs1 rfl
    refine k_neg (by rw [hs1]; decide) ?_
    refine k_pos hs1 ?_
    refine k_steps HG 1 (zB_iff.mpr (?_ : G m _ (49, [(0, .inl (.ref q0)), (1, .inl (.int a1)), (2, .inl (.int a2))], [.inl (.ref q0)], h, 0, 0)))
    refine k_getR HG rfl K hq_q0 rfl (Nat.le_of_ble_eq_true rfl) rfl rfl (fun t7 => (?_ : G m _ (52, [(0, .inl (.ref q0)), (1, .inl (.int a1)), (2, .inl (.int a2))], [.inl (.ref (hr h q0 0))], h, 0, 0)))
    refine k_getR HG rfl K t7 rfl (Nat.le_of_ble_eq_true rfl) rfl rfl (fun t8 => (?_ : G m _ (55, [(0, .inl (.ref q0)), (1, .inl (.int a1)), (2, .inl (.int a2))], [.inl (.ref (hr h (hr h q0 0) 12))], h, 0, 0)))
    refine k_steps HG 1 (zB_iff.mpr (?_ : G m _ (56, [(0, .inl (.ref q0)), (1, .inl (.int a1)), (2, .inl (.int a2))], [.inl (.int a1), .inl (.ref (hr h (hr h q0 0) 12))], h, 0, 0)))
    refine k_iald HG rfl K t8 rfl (fun _ => rfl) (?_ : G m _ (57, [(0, .inl (.ref q0)), (1, .inl (.int a1)), (2, .inl (.int a2))], [.inl (.int (hv h (hr h (hr h q0 0) 12) a1.toNatClampNeg))], h, 0, 0))
    exact k_reti HG rfl rfl (fun e1 e2 => hR _ e1 e2)
  · show G m _ (58, [(0, .inl (.ref q0)), (1, .inl (.int a1)), (2, .inl (.int a2))], [], h, 0, 0)
    have hs1 : a2 = (3 : Int32) := k_sw hs1 rfl
    refine k_neg (by rw [hs1]; decide) ?_
    refine k_neg (by rw [hs1]; decide) ?_
    refine k_pos hs1 ?_
    refine k_steps HG 1 (zB_iff.mpr (?_ : G m _ (59, [(0, .inl (.ref q0)), (1, .inl (.int a1)), (2, .inl (.int a2))], [.inl (.ref q0)], h, 0, 0)))
    refine k_getR HG rfl K hq_q0 rfl (Nat.le_of_ble_eq_true rfl) rfl rfl (fun t9 => (?_ : G m _ (62, [(0, .inl (.ref q0)), (1, .inl (.int a1)), (2, .inl (.int a2))], [.inl (.ref (hr h q0 0))], h, 0, 0)))
    refine k_cVI HG (E' := ze_X1_firstBrought) (Or.inl ⟨rfl, rfl⟩) hsc rfl rfl rfl rfl rfl (fun hh => x_X1_firstBrought hsc K.1 t9 hh) (fun y10 => (?_ : G m _ (65, [(0, .inl (.ref q0)), (1, .inl (.int a1)), (2, .inl (.int a2))], [.inl (.int y10)], h, 0, 0)))
    exact k_reti HG rfl rfl (fun e1 e2 => hR _ e1 e2)
  · show G m _ (66, [(0, .inl (.ref q0)), (1, .inl (.int a1)), (2, .inl (.int a2))], [], h, 0, 0)
    have hs1 : a2 = (4 : Int32) := k_sw hs1 rfl
    refine k_neg (by rw [hs1]; decide) ?_
    refine k_neg (by rw [hs1]; decide) ?_
    refine k_neg (by rw [hs1]; decide) ?_
    refine k_pos hs1 ?_
    refine k_steps HG 1 (zB_iff.mpr (?_ : G m _ (67, [(0, .inl (.ref q0)), (1, .inl (.int a1)), (2, .inl (.int a2))], [.inl (.ref q0)], h, 0, 0)))
    refine k_getR HG rfl K hq_q0 rfl (Nat.le_of_ble_eq_true rfl) rfl rfl (fun t11 => (?_ : G m _ (70, [(0, .inl (.ref q0)), (1, .inl (.int a1)), (2, .inl (.int a2))], [.inl (.ref (hr h q0 0))], h, 0, 0)))
    refine k_steps HG 1 (zB_iff.mpr (?_ : G m _ (71, [(0, .inl (.ref q0)), (1, .inl (.int a1)), (2, .inl (.int a2))], [.inl (.int a1), .inl (.ref (hr h q0 0))], h, 0, 0)))
    refine k_cVI HG (E' := ze_X1_goesToWait) (Or.inl ⟨rfl, rfl⟩) hsc rfl rfl rfl rfl rfl (fun hh => x_X1_goesToWait hsc K.1 t11 hh) (fun y12 => (?_ : G m _ (74, [(0, .inl (.ref q0)), (1, .inl (.int a1)), (2, .inl (.int a2))], [.inl (.int y12)], h, 0, 0)))
    exact k_reti HG rfl rfl (fun e1 e2 => hR _ e1 e2)
  · show G m _ (75, [(0, .inl (.ref q0)), (1, .inl (.int a1)), (2, .inl (.int a2))], [], h, 0, 0)
    have hs1 : a2 = (5 : Int32) := k_sw hs1 rfl
    refine k_neg (by rw [hs1]; decide) ?_
    refine k_neg (by rw [hs1]; decide) ?_
    refine k_neg (by rw [hs1]; decide) ?_
    refine k_neg (by rw [hs1]; decide) ?_
    refine k_pos hs1 ?_
    refine k_steps HG 1 (zB_iff.mpr (?_ : G m _ (76, [(0, .inl (.ref q0)), (1, .inl (.int a1)), (2, .inl (.int a2))], [.inl (.ref q0)], h, 0, 0)))
    refine k_getR HG rfl K hq_q0 rfl (Nat.le_of_ble_eq_true rfl) rfl rfl (fun t13 => (?_ : G m _ (79, [(0, .inl (.ref q0)), (1, .inl (.int a1)), (2, .inl (.int a2))], [.inl (.ref (hr h q0 0))], h, 0, 0)))
    refine k_cVI HG (E' := ze_X1_slipsToSink) (Or.inl ⟨rfl, rfl⟩) hsc rfl rfl rfl rfl rfl (fun hh => x_X1_slipsToSink hsc K.1 t13 hh) (fun y14 => (?_ : G m _ (82, [(0, .inl (.ref q0)), (1, .inl (.int a1)), (2, .inl (.int a2))], [.inl (.int y14)], h, 0, 0)))
    exact k_reti HG rfl rfl (fun e1 e2 => hR _ e1 e2)
