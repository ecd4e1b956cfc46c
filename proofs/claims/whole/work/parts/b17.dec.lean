def W_X4_suspect : List (Nat × Nat) := [(23, 1000)]
noncomputable def F_X4_suspect (h : zH) (q0 : Nat) (a1 : Int32) (a2 : Int32) : Int32 × zH := (letf (F_X4_isWithin a1 (1 : Int32) (60 : Int32)) (fun y1 => (if y1 = (0 : Int32) then (letf (F_X4_refuse h q0 (-2 : Int32)) (fun y2 => (y2.1, y2.2))) else (letf (F_X4_isWithin a2 (0 : Int32) a1) (fun y3 => (if y3 = (0 : Int32) then (letf (F_X4_refuse h q0 (-2 : Int32)) (fun y5 => (y5.1, y5.2))) else (letf (F_X4_sureness a1 a2) (fun y4 => (y4, h)))))))))
theorem x_X4_suspect {scr : List zV} {T : List Nat} {h : zH} {q0 : Nat} {a1 : Int32} {a2 : Int32} (hsc : cT scr) (K : hOK kty T h) (hq_q0 : T[q0]? = some 4) (hh : cH h) : xIH scr W_X4_suspect T T 142 [.inl (.ref q0), .inl (.int a1), .inl (.int a2)] h (F_X4_suspect h q0 a1 a2) := by
  refine xIH_intro (E := ze_X4_suspect) hsc rfl (cTb_ok rfl) hh (fun d r h' G HG Pf hR m => ?_)
  have K := kOK_refl (W := W_X4_suspect) K
  unfold F_X4_suspect
  show G m _ (0, [(0, .inl (.ref q0)), (1, .inl (.int a1)), (2, .inl (.int a2))], [], h, 0, 0)
  refine k_steps HG 3 (zB_iff.mpr (?_ : G m _ (4, [(0, .inl (.ref q0)), (1, .inl (.int a1)), (2, .inl (.int a2))], [.inl (.int (60 : Int32)), .inl (.int (1 : Int32)), .inl (.int a1)], h, 0, 0)))
  refine k_cSI HG (E' := ze_X4_isWithin) (Or.inl rfl) hsc rfl rfl rfl rfl (fun hh => x_X4_isWithin hsc hh) (fun y1 => (?_ : G m _ (7, [(0, .inl (.ref q0)), (1, .inl (.int a1)), (2, .inl (.int a2))], [.inl (.int y1)], h, 0, 0)))
  refine k_steps HG 1 (kb_eq (x := y1) (y := (0 : Int32)) ?_ ?_)
  · show G m _ (19, [(0, .inl (.ref q0)), (1, .inl (.int a1)), (2, .inl (.int a2))], [], h, 0, 0)
    refine k_steps HG 2 (zB_iff.mpr (?_ : G m _ (22, [(0, .inl (.ref q0)), (1, .inl (.int a1)), (2, .inl (.int a2))], [.inl (.int (-2 : Int32)), .inl (.ref q0)], h, 0, 0)))
    refine k_cVIH HG (E' := ze_X4_refuse) (Or.inl ⟨rfl, rfl⟩) hsc rfl rfl rfl rfl rfl K rfl (fun hh => x_X4_refuse hsc K.1 hq_q0 hh) (fun y2 K2 => (?_ : G m _ (25, [(0, .inl (.ref q0)), (1, .inl (.int a1)), (2, .inl (.int a2))], [.inl (.int y2.1)], y2.2, 0, 0)))
    exact k_reti HG rfl rfl (fun e1 e2 => hR _ _ e1 e2 K2)
  · show G m _ (10, [(0, .inl (.ref q0)), (1, .inl (.int a1)), (2, .inl (.int a2))], [], h, 0, 0)
    refine k_steps HG 3 (zB_iff.mpr (?_ : G m _ (13, [(0, .inl (.ref q0)), (1, .inl (.int a1)), (2, .inl (.int a2))], [.inl (.int a1), .inl (.int (0 : Int32)), .inl (.int a2)], h, 0, 0)))
    refine k_cSI HG (E' := ze_X4_isWithin) (Or.inl rfl) hsc rfl rfl rfl rfl (fun hh => x_X4_isWithin hsc hh) (fun y3 => (?_ : G m _ (16, [(0, .inl (.ref q0)), (1, .inl (.int a1)), (2, .inl (.int a2))], [.inl (.int y3)], h, 0, 0)))
    refine k_steps HG 1 (kb_ne (x := y3) (y := (0 : Int32)) ?_ ?_)
    · show G m _ (26, [(0, .inl (.ref q0)), (1, .inl (.int a1)), (2, .inl (.int a2))], [], h, 0, 0)
      refine k_steps HG 2 (zB_iff.mpr (?_ : G m _ (28, [(0, .inl (.ref q0)), (1, .inl (.int a1)), (2, .inl (.int a2))], [.inl (.int a2), .inl (.int a1)], h, 0, 0)))
      refine k_cSI HG (E' := ze_X4_sureness) (Or.inl rfl) hsc rfl rfl rfl rfl (fun hh => x_X4_sureness hsc hh) (fun y4 => (?_ : G m _ (31, [(0, .inl (.ref q0)), (1, .inl (.int a1)), (2, .inl (.int a2))], [.inl (.int y4)], h, 0, 0)))
      exact k_reti HG rfl rfl (fun e1 e2 => hR _ _ e1 e2 K)
    · show G m _ (19, [(0, .inl (.ref q0)), (1, .inl (.int a1)), (2, .inl (.int a2))], [], h, 0, 0)
      refine k_steps HG 2 (zB_iff.mpr (?_ : G m _ (22, [(0, .inl (.ref q0)), (1, .inl (.int a1)), (2, .inl (.int a2))], [.inl (.int (-2 : Int32)), .inl (.ref q0)], h, 0, 0)))
      refine k_cVIH HG (E' := ze_X4_refuse) (Or.inl ⟨rfl, rfl⟩) hsc rfl rfl rfl rfl rfl K rfl (fun hh => x_X4_refuse hsc K.1 hq_q0 hh) (fun y5 K5 => (?_ : G m _ (25, [(0, .inl (.ref q0)), (1, .inl (.int a1)), (2, .inl (.int a2))], [.inl (.int y5.1)], y5.2, 0, 0)))
      exact k_reti HG rfl rfl (fun e1 e2 => hR _ _ e1 e2 K5)
def W_X4_thing : List (Nat × Nat) := [(1, 8), (11, 1000), (12, 1000), (13, 1000), (14, 1000), (15, 1000), (23, 1000)]
noncomputable def F_X4_thing (h : zH) (q0 : Nat) (a1 : Int32) (a2 : Int32) (a3 : Int32) : Int32 × zH := (letf (F_X4_isWithin a1 (0 : Int32) (5 : Int32)) (fun y1 => (if y1 = (0 : Int32) then (letf (F_X4_refuse h q0 (-2 : Int32)) (fun y2 => (y2.1, y2.2))) else (letf (F_X4_isWithin a3 (0 : Int32) (9 : Int32)) (fun y3 => (if y3 = (0 : Int32) then (letf (F_X4_refuse h q0 (-2 : Int32)) (fun y4 => (y4.1, y4.2))) else (letf (F_X1_isSlip h (hr h q0 0) a2) (fun y6 => (if y6 = (0 : Int32) then (letf (F_X4_refuse h q0 (-2 : Int32)) (fun y7 => (y7.1, y7.2))) else (letf (F_X1_isWinner h (hr h q0 0) a2) (fun y9 => (if y9 = (0 : Int32) then (letf (F_X4_refuse h q0 (-2 : Int32)) (fun y17 => (y17.1, y17.2))) else (letf (F_X1_isFreeForThing h (hr h q0 0) a2) (fun y11 => (if y11 = (0 : Int32) then (letf (F_X4_refuse h q0 (-5 : Int32)) (fun y16 => (y16.1, y16.2))) else (if (hv h (hr h q0 0) 8) < (8 : Int32) then (letf (F_X1_addThing h (hr h q0 0) a1 a2 a3) (fun y14 => (y14.1, y14.2))) else (letf (F_X4_refuse h q0 (-6 : Int32)) (fun y15 => (y15.1, y15.2)))))))))))))))))))
theorem x_X4_thing {scr : List zV} {T : List Nat} {h : zH} {q0 : Nat} {a1 : Int32} {a2 : Int32} {a3 : Int32} (hsc : cT scr) (K : hOK kty T h) (hq_q0 : T[q0]? = some 4) (hh : cH h) : xIH scr W_X4_thing T T 144 [.inl (.ref q0), .inl (.int a1), .inl (.int a2), .inl (.int a3)] h (F_X4_thing h q0 a1 a2 a3) := by
  refine xIH_intro (E := ze_X4_thing) hsc rfl (cTb_ok rfl) hh (fun d r h' G HG Pf hR m => ?_)
  have K := kOK_refl (W := W_X4_thing) K
  unfold F_X4_thing
  show G m _ (0, [(0, .inl (.ref q0)), (1, .inl (.int a1)), (2, .inl (.int a2)), (3, .inl (.int a3))], [], h, 0, 0)
  refine k_steps HG 3 (zB_iff.mpr (?_ : G m _ (3, [(0, .inl (.ref q0)), (1, .inl (.int a1)), (2, .inl (.int a2)), (3, .inl (.int a3))], [.inl (.int (5 : Int32)), .inl (.int (0 : Int32)), .inl (.int a1)], h, 0, 0)))
  refine k_cSI HG (E' := ze_X4_isWithin) (Or.inl rfl) hsc rfl rfl rfl rfl (fun hh => x_X4_isWithin hsc hh) (fun y1 => (?_ : G m _ (6, [(0, .inl (.ref q0)), (1, .inl (.int a1)), (2, .inl (.int a2)), (3, .inl (.int a3))], [.inl (.int y1)], h, 0, 0)))
  refine k_steps HG 1 (kb_eq (x := y1) (y := (0 : Int32)) ?_ ?_)
  · show G m _ (41, [(0, .inl (.ref q0)), (1, .inl (.int a1)), (2, .inl (.int a2)), (3, .inl (.int a3))], [], h, 0, 0)
    refine k_steps HG 2 (zB_iff.mpr (?_ : G m _ (44, [(0, .inl (.ref q0)), (1, .inl (.int a1)), (2, .inl (.int a2)), (3, .inl (.int a3))], [.inl (.int (-2 : Int32)), .inl (.ref q0)], h, 0, 0)))
    refine k_cVIH HG (E' := ze_X4_refuse) (Or.inl ⟨rfl, rfl⟩) hsc rfl rfl rfl rfl rfl K rfl (fun hh => x_X4_refuse hsc K.1 hq_q0 hh) (fun y2 K2 => (?_ : G m _ (47, [(0, .inl (.ref q0)), (1, .inl (.int a1)), (2, .inl (.int a2)), (3, .inl (.int a3))], [.inl (.int y2.1)], y2.2, 0, 0)))
    exact k_reti HG rfl rfl (fun e1 e2 => hR _ _ e1 e2 K2)
  · show G m _ (9, [(0, .inl (.ref q0)), (1, .inl (.int a1)), (2, .inl (.int a2)), (3, .inl (.int a3))], [], h, 0, 0)
    refine k_steps HG 3 (zB_iff.mpr (?_ : G m _ (13, [(0, .inl (.ref q0)), (1, .inl (.int a1)), (2, .inl (.int a2)), (3, .inl (.int a3))], [.inl (.int (9 : Int32)), .inl (.int (0 : Int32)), .inl (.int a3)], h, 0, 0)))
    refine k_cSI HG (E' := ze_X4_isWithin) (Or.inl rfl) hsc rfl rfl rfl rfl (fun hh => x_X4_isWithin hsc hh) (fun y3 => (?_ : G m _ (16, [(0, .inl (.ref q0)), (1, .inl (.int a1)), (2, .inl (.int a2)), (3, .inl (.int a3))], [.inl (.int y3)], h, 0, 0)))
    refine k_steps HG 1 (kb_eq (x := y3) (y := (0 : Int32)) ?_ ?_)
    · show G m _ (41, [(0, .inl (.ref q0)), (1, .inl (.int a1)), (2, .inl (.int a2)), (3, .inl (.int a3))], [], h, 0, 0)
      refine k_steps HG 2 (zB_iff.mpr (?_ : G m _ (44, [(0, .inl (.ref q0)), (1, .inl (.int a1)), (2, .inl (.int a2)), (3, .inl (.int a3))], [.inl (.int (-2 : Int32)), .inl (.ref q0)], h, 0, 0)))
      refine k_cVIH HG (E' := ze_X4_refuse) (Or.inl ⟨rfl, rfl⟩) hsc rfl rfl rfl rfl rfl K rfl (fun hh => x_X4_refuse hsc K.1 hq_q0 hh) (fun y4 K4 => (?_ : G m _ (47, [(0, .inl (.ref q0)), (1, .inl (.int a1)), (2, .inl (.int a2)), (3, .inl (.int a3))], [.inl (.int y4.1)], y4.2, 0, 0)))
      exact k_reti HG rfl rfl (fun e1 e2 => hR _ _ e1 e2 K4)
    · show G m _ (19, [(0, .inl (.ref q0)), (1, .inl (.int a1)), (2, .inl (.int a2)), (3, .inl (.int a3))], [], h, 0, 0)
      refine k_steps HG 1 (zB_iff.mpr (?_ : G m _ (20, [(0, .inl (.ref q0)), (1, .inl (.int a1)), (2, .inl (.int a2)), (3, .inl (.int a3))], [.inl (.ref q0)], h, 0, 0)))
      refine k_getR HG rfl K hq_q0 rfl (Nat.le_of_ble_eq_true rfl) rfl rfl (fun t5 => (?_ : G m _ (23, [(0, .inl (.ref q0)), (1, .inl (.int a1)), (2, .inl (.int a2)), (3, .inl (.int a3))], [.inl (.ref (hr h q0 0))], h, 0, 0)))
      refine k_steps HG 1 (zB_iff.mpr (?_ : G m _ (24, [(0, .inl (.ref q0)), (1, .inl (.int a1)), (2, .inl (.int a2)), (3, .inl (.int a3))], [.inl (.int a2), .inl (.ref (hr h q0 0))], h, 0, 0)))
      refine k_cVI HG (E' := ze_X1_isSlip) (Or.inl ⟨rfl, rfl⟩) hsc rfl rfl rfl rfl rfl (fun hh => x_X1_isSlip hsc K.1 t5 hh) (fun y6 => (?_ : G m _ (27, [(0, .inl (.ref q0)), (1, .inl (.int a1)), (2, .inl (.int a2)), (3, .inl (.int a3))], [.inl (.int y6)], h, 0, 0)))
      refine k_steps HG 1 (kb_eq (x := y6) (y := (0 : Int32)) ?_ ?_)
      · show G m _ (41, [(0, .inl (.ref q0)), (1, .inl (.int a1)), (2, .inl (.int a2)), (3, .inl (.int a3))], [], h, 0, 0)
        refine k_steps HG 2 (zB_iff.mpr (?_ : G m _ (44, [(0, .inl (.ref q0)), (1, .inl (.int a1)), (2, .inl (.int a2)), (3, .inl (.int a3))], [.inl (.int (-2 : Int32)), .inl (.ref q0)], h, 0, 0)))
        refine k_cVIH HG (E' := ze_X4_refuse) (Or.inl ⟨rfl, rfl⟩) hsc rfl rfl rfl rfl rfl K rfl (fun hh => x_X4_refuse hsc K.1 hq_q0 hh) (fun y7 K7 => (?_ : G m _ (47, [(0, .inl (.ref q0)), (1, .inl (.int a1)), (2, .inl (.int a2)), (3, .inl (.int a3))], [.inl (.int y7.1)], y7.2, 0, 0)))
        exact k_reti HG rfl rfl (fun e1 e2 => hR _ _ e1 e2 K7)
      · show G m _ (30, [(0, .inl (.ref q0)), (1, .inl (.int a1)), (2, .inl (.int a2)), (3, .inl (.int a3))], [], h, 0, 0)
        refine k_steps HG 1 (zB_iff.mpr (?_ : G m _ (31, [(0, .inl (.ref q0)), (1, .inl (.int a1)), (2, .inl (.int a2)), (3, .inl (.int a3))], [.inl (.ref q0)], h, 0, 0)))
        refine k_getR HG rfl K hq_q0 rfl (Nat.le_of_ble_eq_true rfl) rfl rfl (fun t8 => (?_ : G m _ (34, [(0, .inl (.ref q0)), (1, .inl (.int a1)), (2, .inl (.int a2)), (3, .inl (.int a3))], [.inl (.ref (hr h q0 0))], h, 0, 0)))
        refine k_steps HG 1 (zB_iff.mpr (?_ : G m _ (35, [(0, .inl (.ref q0)), (1, .inl (.int a1)), (2, .inl (.int a2)), (3, .inl (.int a3))], [.inl (.int a2), .inl (.ref (hr h q0 0))], h, 0, 0)))
        refine k_cVI HG (E' := ze_X1_isWinner) (Or.inl ⟨rfl, rfl⟩) hsc rfl rfl rfl rfl rfl (fun hh => x_X1_isWinner hsc K.1 t8 hh) (fun y9 => (?_ : G m _ (38, [(0, .inl (.ref q0)), (1, .inl (.int a1)), (2, .inl (.int a2)), (3, .inl (.int a3))], [.inl (.int y9)], h, 0, 0)))
        refine k_steps HG 1 (kb_ne (x := y9) (y := (0 : Int32)) ?_ ?_)
        · show G m _ (48, [(0, .inl (.ref q0)), (1, .inl (.int a1)), (2, .inl (.int a2)), (3, .inl (.int a3))], [], h, 0, 0)
          refine k_steps HG 1 (zB_iff.mpr (?_ : G m _ (49, [(0, .inl (.ref q0)), (1, .inl (.int a1)), (2, .inl (.int a2)), (3, .inl (.int a3))], [.inl (.ref q0)], h, 0, 0)))
          refine k_getR HG rfl K hq_q0 rfl (Nat.le_of_ble_eq_true rfl) rfl rfl (fun t10 => (?_ : G m _ (52, [(0, .inl (.ref q0)), (1, .inl (.int a1)), (2, .inl (.int a2)), (3, .inl (.int a3))], [.inl (.ref (hr h q0 0))], h, 0, 0)))
          refine k_steps HG 1 (zB_iff.mpr (?_ : G m _ (53, [(0, .inl (.ref q0)), (1, .inl (.int a1)), (2, .inl (.int a2)), (3, .inl (.int a3))], [.inl (.int a2), .inl (.ref (hr h q0 0))], h, 0, 0)))
          refine k_cVI HG (E' := ze_X1_isFreeForThing) (Or.inl ⟨rfl, rfl⟩) hsc rfl rfl rfl rfl rfl (fun hh => x_X1_isFreeForThing hsc K.1 t10 hh) (fun y11 => (?_ : G m _ (56, [(0, .inl (.ref q0)), (1, .inl (.int a1)), (2, .inl (.int a2)), (3, .inl (.int a3))], [.inl (.int y11)], h, 0, 0)))
          refine k_steps HG 1 (kb_ne (x := y11) (y := (0 : Int32)) ?_ ?_)
          · show G m _ (66, [(0, .inl (.ref q0)), (1, .inl (.int a1)), (2, .inl (.int a2)), (3, .inl (.int a3))], [], h, 0, 0)
            refine k_steps HG 1 (zB_iff.mpr (?_ : G m _ (67, [(0, .inl (.ref q0)), (1, .inl (.int a1)), (2, .inl (.int a2)), (3, .inl (.int a3))], [.inl (.ref q0)], h, 0, 0)))
            refine k_getR HG rfl K hq_q0 rfl (Nat.le_of_ble_eq_true rfl) rfl rfl (fun t12 => (?_ : G m _ (70, [(0, .inl (.ref q0)), (1, .inl (.int a1)), (2, .inl (.int a2)), (3, .inl (.int a3))], [.inl (.ref (hr h q0 0))], h, 0, 0)))
            refine k_getI HG rfl K t12 rfl (Nat.le_of_ble_eq_true rfl) rfl (?_ : G m _ (73, [(0, .inl (.ref q0)), (1, .inl (.int a1)), (2, .inl (.int a2)), (3, .inl (.int a3))], [.inl (.int (hv h (hr h q0 0) 8))], h, 0, 0))
            refine k_steps HG 2 (kb_lt (x := (hv h (hr h q0 0) 8)) (y := (8 : Int32)) ?_ ?_)
            · show G m _ (85, [(0, .inl (.ref q0)), (1, .inl (.int a1)), (2, .inl (.int a2)), (3, .inl (.int a3))], [], h, 0, 0)
              refine k_steps HG 1 (zB_iff.mpr (?_ : G m _ (86, [(0, .inl (.ref q0)), (1, .inl (.int a1)), (2, .inl (.int a2)), (3, .inl (.int a3))], [.inl (.ref q0)], h, 0, 0)))
              refine k_getR HG rfl K hq_q0 rfl (Nat.le_of_ble_eq_true rfl) rfl rfl (fun t13 => (?_ : G m _ (89, [(0, .inl (.ref q0)), (1, .inl (.int a1)), (2, .inl (.int a2)), (3, .inl (.int a3))], [.inl (.ref (hr h q0 0))], h, 0, 0)))
              refine k_steps HG 3 (zB_iff.mpr (?_ : G m _ (92, [(0, .inl (.ref q0)), (1, .inl (.int a1)), (2, .inl (.int a2)), (3, .inl (.int a3))], [.inl (.int a3), .inl (.int a2), .inl (.int a1), .inl (.ref (hr h q0 0))], h, 0, 0)))
              refine k_cVIH HG (E' := ze_X1_addThing) (Or.inl ⟨rfl, rfl⟩) hsc rfl rfl rfl rfl rfl K rfl (fun hh => x_X1_addThing hsc K.1 t13 hh) (fun y14 K14 => (?_ : G m _ (95, [(0, .inl (.ref q0)), (1, .inl (.int a1)), (2, .inl (.int a2)), (3, .inl (.int a3))], [.inl (.int y14.1)], y14.2, 0, 0)))
              exact k_reti HG rfl rfl (fun e1 e2 => hR _ _ e1 e2 K14)
            · show G m _ (78, [(0, .inl (.ref q0)), (1, .inl (.int a1)), (2, .inl (.int a2)), (3, .inl (.int a3))], [], h, 0, 0)
              refine k_steps HG 2 (zB_iff.mpr (?_ : G m _ (81, [(0, .inl (.ref q0)), (1, .inl (.int a1)), (2, .inl (.int a2)), (3, .inl (.int a3))], [.inl (.int (-6 : Int32)), .inl (.ref q0)], h, 0, 0)))
              refine k_cVIH HG (E' := ze_X4_refuse) (Or.inl ⟨rfl, rfl⟩) hsc rfl rfl rfl rfl rfl K rfl (fun hh => x_X4_refuse hsc K.1 hq_q0 hh) (fun y15 K15 => (?_ : G m _ (84, [(0, .inl (.ref q0)), (1, .inl (.int a1)), (2, .inl (.int a2)), (3, .inl (.int a3))], [.inl (.int y15.1)], y15.2, 0, 0)))
              exact k_reti HG rfl rfl (fun e1 e2 => hR _ _ e1 e2 K15)
          · show G m _ (59, [(0, .inl (.ref q0)), (1, .inl (.int a1)), (2, .inl (.int a2)), (3, .inl (.int a3))], [], h, 0, 0)
            refine k_steps HG 2 (zB_iff.mpr (?_ : G m _ (62, [(0, .inl (.ref q0)), (1, .inl (.int a1)), (2, .inl (.int a2)), (3, .inl (.int a3))], [.inl (.int (-5 : Int32)), .inl (.ref q0)], h, 0, 0)))
            refine k_cVIH HG (E' := ze_X4_refuse) (Or.inl ⟨rfl, rfl⟩) hsc rfl rfl rfl rfl rfl K rfl (fun hh => x_X4_refuse hsc K.1 hq_q0 hh) (fun y16 K16 => (?_ : G m _ (65, [(0, .inl (.ref q0)), (1, .inl (.int a1)), (2, .inl (.int a2)), (3, .inl (.int a3))], [.inl (.int y16.1)], y16.2, 0, 0)))
            exact k_reti HG rfl rfl (fun e1 e2 => hR _ _ e1 e2 K16)
        · show G m _ (41, [(0, .inl (.ref q0)), (1, .inl (.int a1)), (2, .inl (.int a2)), (3, .inl (.int a3))], [], h, 0, 0)
          refine k_steps HG 2 (zB_iff.mpr (?_ : G m _ (44, [(0, .inl (.ref q0)), (1, .inl (.int a1)), (2, .inl (.int a2)), (3, .inl (.int a3))], [.inl (.int (-2 : Int32)), .inl (.ref q0)], h, 0, 0)))
          refine k_cVIH HG (E' := ze_X4_refuse) (Or.inl ⟨rfl, rfl⟩) hsc rfl rfl rfl rfl rfl K rfl (fun hh => x_X4_refuse hsc K.1 hq_q0 hh) (fun y17 K17 => (?_ : G m _ (47, [(0, .inl (.ref q0)), (1, .inl (.int a1)), (2, .inl (.int a2)), (3, .inl (.int a3))], [.inl (.int y17.1)], y17.2, 0, 0)))
          exact k_reti HG rfl rfl (fun e1 e2 => hR _ _ e1 e2 K17)
def W_X4_thingOf : List (Nat × Nat) := [(23, 1000)]
noncomputable def F_X4_thingOf (h : zH) (q0 : Nat) (a1 : Int32) (a2 : Int32) : Int32 × zH := (letf (F_X1_isThing h (hr h q0 0) a1) (fun y2 => (if y2 = (0 : Int32) then (letf (F_X4_refuse h q0 (-2 : Int32)) (fun y20 => (y20.1, y20.2))) else (if a2 = (0 : Int32) then ((hv h (hr h (hr h q0 0) 9) a1.toNatClampNeg), h) else (if a2 = (1 : Int32) then ((hv h (hr h (hr h q0 0) 10) a1.toNatClampNeg), h) else (if a2 = (2 : Int32) then ((hv h (hr h (hr h q0 0) 11) a1.toNatClampNeg), h) else (if a2 = (3 : Int32) then ((hv h (hr h (hr h q0 0) 12) a1.toNatClampNeg), h) else (if a2 = (4 : Int32) then ((hv h (hr h (hr h q0 0) 13) a1.toNatClampNeg), h) else (if a2 < (10 : Int32) then (letf (F_X4_refuse h q0 (-2 : Int32)) (fun y4 => (y4.1, y4.2))) else (letf (F_X1_isBuyer h (hr h q0 0) (a2 - (10 : Int32))) (fun y6 => (if y6 = (0 : Int32) then (letf (F_X4_refuse h q0 (-2 : Int32)) (fun y9 => (y9.1, y9.2))) else (letf (F_X1_liking h (hr h q0 0) (a2 - (10 : Int32)) a1) (fun y8 => (y8, h)))))))))))))))
theorem x_X4_thingOf {scr : List zV} {T : List Nat} {h : zH} {q0 : Nat} {a1 : Int32} {a2 : Int32} (hsc : cT scr) (K : hOK kty T h) (hq_q0 : T[q0]? = some 4) (hh : cH h) : xIH scr W_X4_thingOf T T 145 [.inl (.ref q0), .inl (.int a1), .inl (.int a2)] h (F_X4_thingOf h q0 a1 a2) := by
  refine xIH_intro (E := ze_X4_thingOf) hsc rfl (cTb_ok rfl) hh (fun d r h' G HG Pf hR m => ?_)
  have K := kOK_refl (W := W_X4_thingOf) K
  unfold F_X4_thingOf
  show G m _ (0, [(0, .inl (.ref q0)), (1, .inl (.int a1)), (2, .inl (.int a2))], [], h, 0, 0)
  refine k_steps HG 1 (zB_iff.mpr (?_ : G m _ (1, [(0, .inl (.ref q0)), (1, .inl (.int a1)), (2, .inl (.int a2))], [.inl (.ref q0)], h, 0, 0)))
  refine k_getR HG rfl K hq_q0 rfl (Nat.le_of_ble_eq_true rfl) rfl rfl (fun t1 => (?_ : G m _ (4, [(0, .inl (.ref q0)), (1, .inl (.int a1)), (2, .inl (.int a2))], [.inl (.ref (hr h q0 0))], h, 0, 0)))
  refine k_steps HG 1 (zB_iff.mpr (?_ : G m _ (5, [(0, .inl (.ref q0)), (1, .inl (.int a1)), (2, .inl (.int a2))], [.inl (.int a1), .inl (.ref (hr h q0 0))], h, 0, 0)))
  refine k_cVI HG (E' := ze_X1_isThing) (Or.inl ⟨rfl, rfl⟩) hsc rfl rfl rfl rfl rfl (fun hh => x_X1_isThing hsc K.1 t1 hh) (fun y2 => (?_ : G m _ (8, [(0, .inl (.ref q0)), (1, .inl (.int a1)), (2, .inl (.int a2))], [.inl (.int y2)], h, 0, 0)))
  refine k_steps HG 1 (kb_ne (x := y2) (y := (0 : Int32)) ?_ ?_)
  · show G m _ (18, [(0, .inl (.ref q0)), (1, .inl (.int a1)), (2, .inl (.int a2))], [], h, 0, 0)
    refine k_steps HG 1 (zB_iff.mpr (?_ : G m _ (19, [(0, .inl (.ref q0)), (1, .inl (.int a1)), (2, .inl (.int a2))], [.inl (.int a2)], h, 0, 0)))
    refine g_tsw (k_walk HG) (d := 83) (lo := 0) (hi := 4) (offs := #[33, 43, 53, 63, 73]) rfl (x := a2) rfl (fun hs3 => zB_iff.mpr ?_) (And.intro (fun hs3 => zB_iff.mpr ?_) (And.intro (fun hs3 => zB_iff.mpr ?_) (And.intro (fun hs3 => zB_iff.mpr ?_) (And.intro (fun hs3 => zB_iff.mpr ?_) (And.intro (fun hs3 => zB_iff.mpr ?_) trivial)))))
    · show G m _ (102, [(0, .inl (.ref q0)), (1, .inl (.int a1)), (2, .inl (.int a2))], [], h, 0, 0)
      refine k_neg (k_swn (lo := 0) (hi := 4) hs3 (by decide)) ?_
      refine k_neg (k_swn (lo := 0) (hi := 4) hs3 (by decide)) ?_
      refine k_neg (k_swn (lo := 0) (hi := 4) hs3 (by decide)) ?_
      refine k_neg (k_swn (lo := 0) (hi := 4) hs3 (by decide)) ?_
      refine k_neg (k_swn (lo := 0) (hi := 4) hs3 (by decide)) ?_
      refine k_steps HG 3 (kb_lt (x := a2) (y := (10 : Int32)) ?_ ?_)
      · show G m _ (122, [(0, .inl (.ref q0)), (1, .inl (.int a1)), (2, .inl (.int a2))], [], h, 0, 0)
        refine k_steps HG 2 (zB_iff.mpr (?_ : G m _ (125, [(0, .inl (.ref q0)), (1, .inl (.int a1)), (2, .inl (.int a2))], [.inl (.int (-2 : Int32)), .inl (.ref q0)], h, 0, 0)))
        refine k_cVIH HG (E' := ze_X4_refuse) (Or.inl ⟨rfl, rfl⟩) hsc rfl rfl rfl rfl rfl K rfl (fun hh => x_X4_refuse hsc K.1 hq_q0 hh) (fun y4 K4 => (?_ : G m _ (128, [(0, .inl (.ref q0)), (1, .inl (.int a1)), (2, .inl (.int a2))], [.inl (.int y4.1)], y4.2, 0, 0)))
        exact k_reti HG rfl rfl (fun e1 e2 => hR _ _ e1 e2 K4)
      · show G m _ (108, [(0, .inl (.ref q0)), (1, .inl (.int a1)), (2, .inl (.int a2))], [], h, 0, 0)
        refine k_steps HG 1 (zB_iff.mpr (?_ : G m _ (109, [(0, .inl (.ref q0)), (1, .inl (.int a1)), (2, .inl (.int a2))], [.inl (.ref q0)], h, 0, 0)))
        refine k_getR HG rfl K hq_q0 rfl (Nat.le_of_ble_eq_true rfl) rfl rfl (fun t5 => (?_ : G m _ (112, [(0, .inl (.ref q0)), (1, .inl (.int a1)), (2, .inl (.int a2))], [.inl (.ref (hr h q0 0))], h, 0, 0)))
        refine k_steps HG 3 (zB_iff.mpr (?_ : G m _ (116, [(0, .inl (.ref q0)), (1, .inl (.int a1)), (2, .inl (.int a2))], [.inl (.int (a2 - (10 : Int32))), .inl (.ref (hr h q0 0))], h, 0, 0)))
        refine k_cVI HG (E' := ze_X1_isBuyer) (Or.inl ⟨rfl, rfl⟩) hsc rfl rfl rfl rfl rfl (fun hh => x_X1_isBuyer hsc K.1 t5 hh) (fun y6 => (?_ : G m _ (119, [(0, .inl (.ref q0)), (1, .inl (.int a1)), (2, .inl (.int a2))], [.inl (.int y6)], h, 0, 0)))
        refine k_steps HG 1 (kb_ne (x := y6) (y := (0 : Int32)) ?_ ?_)
        · show G m _ (129, [(0, .inl (.ref q0)), (1, .inl (.int a1)), (2, .inl (.int a2))], [], h, 0, 0)
          refine k_steps HG 1 (zB_iff.mpr (?_ : G m _ (130, [(0, .inl (.ref q0)), (1, .inl (.int a1)), (2, .inl (.int a2))], [.inl (.ref q0)], h, 0, 0)))
          refine k_getR HG rfl K hq_q0 rfl (Nat.le_of_ble_eq_true rfl) rfl rfl (fun t7 => (?_ : G m _ (133, [(0, .inl (.ref q0)), (1, .inl (.int a1)), (2, .inl (.int a2))], [.inl (.ref (hr h q0 0))], h, 0, 0)))
          refine k_steps HG 4 (zB_iff.mpr (?_ : G m _ (138, [(0, .inl (.ref q0)), (1, .inl (.int a1)), (2, .inl (.int a2))], [.inl (.int a1), .inl (.int (a2 - (10 : Int32))), .inl (.ref (hr h q0 0))], h, 0, 0)))
          refine k_cVI HG (E' := ze_X1_liking) (Or.inl ⟨rfl, rfl⟩) hsc rfl rfl rfl rfl rfl (fun hh => x_X1_liking hsc K.1 t7 hh) (fun y8 => (?_ : G m _ (141, [(0, .inl (.ref q0)), (1, .inl (.int a1)), (2, .inl (.int a2))], [.inl (.int y8)], h, 0, 0)))
          exact k_reti HG rfl rfl (fun e1 e2 => hR _ _ e1 e2 K)
        · show G m _ (122, [(0, .inl (.ref q0)), (1, .inl (.int a1)), (2, .inl (.int a2))], [], h, 0, 0)
          refine k_steps HG 2 (zB_iff.mpr (?_ : G m _ (125, [(0, .inl (.ref q0)), (1, .inl (.int a1)), (2, .inl (.int a2))], [.inl (.int (-2 : Int32)), .inl (.ref q0)], h, 0, 0)))
          refine k_cVIH HG (E' := ze_X4_refuse) (Or.inl ⟨rfl, rfl⟩) hsc rfl rfl rfl rfl rfl K rfl (fun hh => x_X4_refuse hsc K.1 hq_q0 hh) (fun y9 K9 => (?_ : G m _ (128, [(0, .inl (.ref q0)), (1, .inl (.int a1)), (2, .inl (.int a2))], [.inl (.int y9.1)], y9.2, 0, 0)))
          exact k_reti HG rfl rfl (fun e1 e2 => hR _ _ e1 e2 K9)
    · show G m _ (52, [(0, .inl (.ref q0)), (1, .inl (.int a1)), (2, .inl (.int a2))], [], h, 0, 0)
      have hs3 : a2 = (0 : Int32) := k_sw hs3 rfl
      refine k_pos hs3 ?_
      refine k_steps HG 1 (zB_iff.mpr (?_ : G m _ (53, [(0, .inl (.ref q0)), (1, .inl (.int a1)), (2, .inl (.int a2))], [.inl (.ref q0)], h, 0, 0)))
      refine k_getR HG rfl K hq_q0 rfl (Nat.le_of_ble_eq_true rfl) rfl rfl (fun t10 => (?_ : G m _ (56, [(0, .inl (.ref q0)), (1, .inl (.int a1)), (2, .inl (.int a2))], [.inl (.ref (hr h q0 0))], h, 0, 0)))
      refine k_getR HG rfl K t10 rfl (Nat.le_of_ble_eq_true rfl) rfl rfl (fun t11 => (?_ : G m _ (59, [(0, .inl (.ref q0)), (1, .inl (.int a1)), (2, .inl (.int a2))], [.inl (.ref (hr h (hr h q0 0) 9))], h, 0, 0)))
      refine k_steps HG 1 (zB_iff.mpr (?_ : G m _ (60, [(0, .inl (.ref q0)), (1, .inl (.int a1)), (2, .inl (.int a2))], [.inl (.int a1), .inl (.ref (hr h (hr h q0 0) 9))], h, 0, 0)))
      refine k_iald HG rfl K t11 rfl (fun _ => rfl) (?_ : G m _ (61, [(0, .inl (.ref q0)), (1, .inl (.int a1)), (2, .inl (.int a2))], [.inl (.int (hv h (hr h (hr h q0 0) 9) a1.toNatClampNeg))], h, 0, 0))
      exact k_reti HG rfl rfl (fun e1 e2 => hR _ _ e1 e2 K)
    · show G m _ (62, [(0, .inl (.ref q0)), (1, .inl (.int a1)), (2, .inl (.int a2))], [], h, 0, 0)
      have hs3 : a2 = (1 : Int32) := k_sw hs3 rfl
      refine k_neg (by rw [hs3]; decide) ?_
      refine k_pos hs3 ?_
      refine k_steps HG 1 (zB_iff.mpr (?_ : G m _ (63, [(0, .inl (.ref q0)), (1, .inl (.int a1)), (2, .inl (.int a2))], [.inl (.ref q0)], h, 0, 0)))
      refine k_getR HG rfl K hq_q0 rfl (Nat.le_of_ble_eq_true rfl) rfl rfl (fun t12 => (?_ : G m _ (66, [(0, .inl (.ref q0)), (1, .inl (.int a1)), (2, .inl (.int a2))], [.inl (.ref (hr h q0 0))], h, 0, 0)))
      refine k_getR HG rfl K t12 rfl (Nat.le_of_ble_eq_true rfl) rfl rfl (fun t13 => (?_ : G m _ (69, [(0, .inl (.ref q0)), (1, .inl (.int a1)), (2, .inl (.int a2))], [.inl (.ref (hr h (hr h q0 0) 10))], h, 0, 0)))
      refine k_steps HG 1 (zB_iff.mpr (?_ : G m _ (70, [(0, .inl (.ref q0)), (1, .inl (.int a1)), (2, .inl (.int a2))], [.inl (.int a1), .inl (.ref (hr h (hr h q0 0) 10))], h, 0, 0)))
      refine k_iald HG rfl K t13 rfl (fun _ => rfl) (?_ : G m _ (71, [(0, .inl (.ref q0)), (1, .inl (.int a1)), (2, .inl (.int a2))], [.inl (.int (hv h (hr h (hr h q0 0) 10) a1.toNatClampNeg))], h, 0, 0))
      exact k_reti HG rfl rfl (fun e1 e2 => hR _ _ e1 e2 K)
    · show G m _ (72, [(0, .inl (.ref q0)), (1, .inl (.int a1)), (2, .inl (.int a2))], [], h, 0, 0)
      have hs3 : a2 = (2 : Int32) := k_sw hs3 rfl
      refine k_neg (by rw [hs3]; decide) ?_
      refine k_neg (by rw [hs3]; decide) ?_
      refine k_pos hs3 ?_
      refine k_steps HG 1 (zB_iff.mpr (?_ : G m _ (73, [(0, .inl (.ref q0)), (1, .inl (.int a1)), (2, .inl (.int a2))], [.inl (.ref q0)], h, 0, 0)))
      refine k_getR HG rfl K hq_q0 rfl (Nat.le_of_ble_eq_true rfl) rfl rfl (fun t14 => (?_ : G m _ (76, [(0, .inl (.ref q0)), (1, .inl (.int a1)), (2, .inl (.int a2))], [.inl (.ref (hr h q0 0))], h, 0, 0)))
      refine k_getR HG rfl K t14 rfl (Nat.le_of_ble_eq_true rfl) rfl rfl (fun t15 => (?_ : G m _ (79, [(0, .inl (.ref q0)), (1, .inl (.int a1)), (2, .inl (.int a2))], [.inl (.ref (hr h (hr h q0 0) 11))], h, 0, 0)))
      refine k_steps HG 1 (zB_iff.mpr (?_ : G m _ (80, [(0, .inl (.ref q0)), (1, .inl (.int a1)), (2, .inl (.int a2))], [.inl (.int a1), .inl (.ref (hr h (hr h q0 0) 11))], h, 0, 0)))
      refine k_iald HG rfl K t15 rfl (fun _ => rfl) (?_ : G m _ (81, [(0, .inl (.ref q0)), (1, .inl (.int a1)), (2, .inl (.int a2))], [.inl (.int (hv h (hr h (hr h q0 0) 11) a1.toNatClampNeg))], h, 0, 0))
      exact k_reti HG rfl rfl (fun e1 e2 => hR _ _ e1 e2 K)
    · show G m _ (82, [(0, .inl (.ref q0)), (1, .inl (.int a1)), (2, .inl (.int a2))], [], h, 0, 0)
      have hs3 : a2 = (3 : Int32) := k_sw hs3 rfl
      refine k_neg (by rw [hs3]; decide) ?_
      refine k_neg (by rw [hs3]; decide) ?_
      refine k_neg (by rw [hs3]; decide) ?_
      refine k_pos hs3 ?_
      refine k_steps HG 1 (zB_iff.mpr (?_ : G m _ (83, [(0, .inl (.ref q0)), (1, .inl (.int a1)), (2, .inl (.int a2))], [.inl (.ref q0)], h, 0, 0)))
      refine k_getR HG rfl K hq_q0 rfl (Nat.le_of_ble_eq_true rfl) rfl rfl (fun t16 => (?_ : G m _ (86, [(0, .inl (.ref q0)), (1, .inl (.int a1)), (2, .inl (.int a2))], [.inl (.ref (hr h q0 0))], h, 0, 0)))
      refine k_getR HG rfl K t16 rfl (Nat.le_of_ble_eq_true rfl) rfl rfl (fun t17 => (?_ : G m _ (89, [(0, .inl (.ref q0)), (1, .inl (.int a1)), (2, .inl (.int a2))], [.inl (.ref (hr h (hr h q0 0) 12))], h, 0, 0)))
      refine k_steps HG 1 (zB_iff.mpr (?_ : G m _ (90, [(0, .inl (.ref q0)), (1, .inl (.int a1)), (2, .inl (.int a2))], [.inl (.int a1), .inl (.ref (hr h (hr h q0 0) 12))], h, 0, 0)))
      refine k_iald HG rfl K t17 rfl (fun _ => rfl) (?_ : G m _ (91, [(0, .inl (.ref q0)), (1, .inl (.int a1)), (2, .inl (.int a2))], [.inl (.int (hv h (hr h (hr h q0 0) 12) a1.toNatClampNeg))], h, 0, 0))
      exact k_reti HG rfl rfl (fun e1 e2 => hR _ _ e1 e2 K)
    · show G m _ (92, [(0, .inl (.ref q0)), (1, .inl (.int a1)), (2, .inl (.int a2))], [], h, 0, 0)
      have hs3 : a2 = (4 : Int32) := k_sw hs3 rfl
      refine k_neg (by rw [hs3]; decide) ?_
      refine k_neg (by rw [hs3]; decide) ?_
      refine k_neg (by rw [hs3]; decide) ?_
      refine k_neg (by rw [hs3]; decide) ?_
      refine k_pos hs3 ?_
      refine k_steps HG 1 (zB_iff.mpr (?_ : G m _ (93, [(0, .inl (.ref q0)), (1, .inl (.int a1)), (2, .inl (.int a2))], [.inl (.ref q0)], h, 0, 0)))
      refine k_getR HG rfl K hq_q0 rfl (Nat.le_of_ble_eq_true rfl) rfl rfl (fun t18 => (?_ : G m _ (96, [(0, .inl (.ref q0)), (1, .inl (.int a1)), (2, .inl (.int a2))], [.inl (.ref (hr h q0 0))], h, 0, 0)))
      refine k_getR HG rfl K t18 rfl (Nat.le_of_ble_eq_true rfl) rfl rfl (fun t19 => (?_ : G m _ (99, [(0, .inl (.ref q0)), (1, .inl (.int a1)), (2, .inl (.int a2))], [.inl (.ref (hr h (hr h q0 0) 13))], h, 0, 0)))
      refine k_steps HG 1 (zB_iff.mpr (?_ : G m _ (100, [(0, .inl (.ref q0)), (1, .inl (.int a1)), (2, .inl (.int a2))], [.inl (.int a1), .inl (.ref (hr h (hr h q0 0) 13))], h, 0, 0)))
      refine k_iald HG rfl K t19 rfl (fun _ => rfl) (?_ : G m _ (101, [(0, .inl (.ref q0)), (1, .inl (.int a1)), (2, .inl (.int a2))], [.inl (.int (hv h (hr h (hr h q0 0) 13) a1.toNatClampNeg))], h, 0, 0))
      exact k_reti HG rfl rfl (fun e1 e2 => hR _ _ e1 e2 K)
  · show G m _ (11, [(0, .inl (.ref q0)), (1, .inl (.int a1)), (2, .inl (.int a2))], [], h, 0, 0)
    refine k_steps HG 2 (zB_iff.mpr (?_ : G m _ (14, [(0, .inl (.ref q0)), (1, .inl (.int a1)), (2, .inl (.int a2))], [.inl (.int (-2 : Int32)), .inl (.ref q0)], h, 0, 0)))
    refine k_cVIH HG (E' := ze_X4_refuse) (Or.inl ⟨rfl, rfl⟩) hsc rfl rfl rfl rfl rfl K rfl (fun hh => x_X4_refuse hsc K.1 hq_q0 hh) (fun y20 K20 => (?_ : G m _ (17, [(0, .inl (.ref q0)), (1, .inl (.int a1)), (2, .inl (.int a2))], [.inl (.int y20.1)], y20.2, 0, 0)))
    exact k_reti HG rfl rfl (fun e1 e2 => hR _ _ e1 e2 K20)
def W_X5_all : List (Nat × Nat) := [(30, 1000)]
noncomputable def F_X5_all (h : zH) (q0 : Nat) (a1 : Int32) : Int32 × zH := (letf (F_X5_isBuyer h q0 a1) (fun y1 => (if y1 = (0 : Int32) then (letf (F_X5_refuse h q0 (-2 : Int32)) (fun y5 => (((-10000000 : Int32) + y5.1), y5.2))) else (letf (F_X5_standing h q0) (fun y2 => (letf (F_X5_liked h q0 a1 y2) (fun y3 => (letf (F_X5_inside h q0) (fun y4 => ((y3 - ((hv h q0 11) * y4)), h))))))))))
theorem x_X5_all {scr : List zV} {T : List Nat} {h : zH} {q0 : Nat} {a1 : Int32} (hsc : cT scr) (K : hOK kty T h) (hq_q0 : T[q0]? = some 5) (hh : cH h) : xIH scr W_X5_all T T 154 [.inl (.ref q0), .inl (.int a1)] h (F_X5_all h q0 a1) := by
  refine xIH_intro (E := ze_X5_all) hsc rfl (cTb_ok rfl) hh (fun d r h' G HG Pf hR m => ?_)
  have K := kOK_refl (W := W_X5_all) K
  unfold F_X5_all
  show G m _ (0, [(0, .inl (.ref q0)), (1, .inl (.int a1))], [], h, 0, 0)
  refine k_steps HG 2 (zB_iff.mpr (?_ : G m _ (2, [(0, .inl (.ref q0)), (1, .inl (.int a1))], [.inl (.int a1), .inl (.ref q0)], h, 0, 0)))
  refine k_cVI HG (E' := ze_X5_isBuyer) (Or.inl ⟨rfl, rfl⟩) hsc rfl rfl rfl rfl rfl (fun hh => x_X5_isBuyer hsc K.1 hq_q0 hh) (fun y1 => (?_ : G m _ (5, [(0, .inl (.ref q0)), (1, .inl (.int a1))], [.inl (.int y1)], h, 0, 0)))
  refine k_steps HG 1 (kb_ne (x := y1) (y := (0 : Int32)) ?_ ?_)
  · show G m _ (19, [(0, .inl (.ref q0)), (1, .inl (.int a1))], [], h, 0, 0)
    refine k_steps HG 3 (zB_iff.mpr (?_ : G m _ (22, [(0, .inl (.ref q0)), (1, .inl (.int a1))], [.inl (.ref q0), .inl (.int a1), .inl (.ref q0)], h, 0, 0)))
    refine k_cVI HG (E' := ze_X5_standing) (Or.inl ⟨rfl, rfl⟩) hsc rfl rfl rfl rfl rfl (fun hh => x_X5_standing hsc K.1 hq_q0 hh) (fun y2 => (?_ : G m _ (25, [(0, .inl (.ref q0)), (1, .inl (.int a1))], [.inl (.int y2), .inl (.int a1), .inl (.ref q0)], h, 0, 0)))
    refine k_cVI HG (E' := ze_X5_liked) (Or.inl ⟨rfl, rfl⟩) hsc rfl rfl rfl rfl rfl (fun hh => x_X5_liked hsc K.1 hq_q0 hh) (fun y3 => (?_ : G m _ (28, [(0, .inl (.ref q0)), (1, .inl (.int a1))], [.inl (.int y3)], h, 0, 0)))
    refine k_steps HG 1 (zB_iff.mpr (?_ : G m _ (29, [(0, .inl (.ref q0)), (1, .inl (.int a1))], [.inl (.ref q0), .inl (.int y3)], h, 0, 0)))
    refine k_getI HG rfl K hq_q0 rfl (Nat.le_of_ble_eq_true rfl) rfl (?_ : G m _ (32, [(0, .inl (.ref q0)), (1, .inl (.int a1))], [.inl (.int (hv h q0 11)), .inl (.int y3)], h, 0, 0))
    refine k_steps HG 1 (zB_iff.mpr (?_ : G m _ (33, [(0, .inl (.ref q0)), (1, .inl (.int a1))], [.inl (.ref q0), .inl (.int (hv h q0 11)), .inl (.int y3)], h, 0, 0)))
    refine k_cVI HG (E' := ze_X5_inside) (Or.inl ⟨rfl, rfl⟩) hsc rfl rfl rfl rfl rfl (fun hh => x_X5_inside hsc K.1 hq_q0 hh) (fun y4 => (?_ : G m _ (36, [(0, .inl (.ref q0)), (1, .inl (.int a1))], [.inl (.int y4), .inl (.int (hv h q0 11)), .inl (.int y3)], h, 0, 0)))
    refine k_steps HG 2 (zB_iff.mpr (?_ : G m _ (38, [(0, .inl (.ref q0)), (1, .inl (.int a1))], [.inl (.int (y3 - ((hv h q0 11) * y4)))], h, 0, 0)))
    exact k_reti HG rfl rfl (fun e1 e2 => hR _ _ e1 e2 K)
  · show G m _ (8, [(0, .inl (.ref q0)), (1, .inl (.int a1))], [], h, 0, 0)
    refine k_steps HG 3 (zB_iff.mpr (?_ : G m _ (14, [(0, .inl (.ref q0)), (1, .inl (.int a1))], [.inl (.int (-2 : Int32)), .inl (.ref q0), .inl (.int (-10000000 : Int32))], h, 0, 0)))
    refine k_cVIH HG (E' := ze_X5_refuse) (Or.inl ⟨rfl, rfl⟩) hsc rfl rfl rfl rfl rfl K rfl (fun hh => x_X5_refuse hsc K.1 hq_q0 hh) (fun y5 K5 => (?_ : G m _ (17, [(0, .inl (.ref q0)), (1, .inl (.int a1))], [.inl (.int y5.1), .inl (.int (-10000000 : Int32))], y5.2, 0, 0)))
    refine k_steps HG 1 (zB_iff.mpr (?_ : G m _ (18, [(0, .inl (.ref q0)), (1, .inl (.int a1))], [.inl (.int ((-10000000 : Int32) + y5.1))], y5.2, 0, 0)))
    exact k_reti HG rfl rfl (fun e1 e2 => hR _ _ e1 e2 K5)
def W_X5_buyerOf : List (Nat × Nat) := [(30, 1000)]
noncomputable def F_X5_buyerOf (h : zH) (q0 : Nat) (a1 : Int32) (a2 : Int32) : Int32 × zH := (letf (F_X5_isBuyer h q0 a1) (fun y1 => (if y1 = (0 : Int32) then (letf (F_X5_refuse h q0 (-2 : Int32)) (fun y10 => (y10.1, y10.2))) else (if a2 = (0 : Int32) then ((hv h (hr h q0 24) a1.toNatClampNeg), h) else (if a2 = (1 : Int32) then (letf (F_X5_owned h q0 a1) (fun y5 => (y5, h))) else (if a2 = (2 : Int32) then (letf (F_X5_owned h q0 a1) (fun y6 => (letf (F_X5_liked h q0 a1 y6) (fun y7 => (y7, h))))) else (if a2 = (3 : Int32) then (letf (F_X5_standing h q0) (fun y8 => (letf (F_X5_liked h q0 a1 y8) (fun y9 => (y9, h))))) else (letf (F_X5_refuse h q0 (-2 : Int32)) (fun y3 => (y3.1, y3.2))))))))))
theorem x_X5_buyerOf {scr : List zV} {T : List Nat} {h : zH} {q0 : Nat} {a1 : Int32} {a2 : Int32} (hsc : cT scr) (K : hOK kty T h) (hq_q0 : T[q0]? = some 5) (hh : cH h) : xIH scr W_X5_buyerOf T T 165 [.inl (.ref q0), .inl (.int a1), .inl (.int a2)] h (F_X5_buyerOf h q0 a1 a2) := by
  refine xIH_intro (E := ze_X5_buyerOf) hsc rfl (cTb_ok rfl) hh (fun d r h' G HG Pf hR m => ?_)
  have K := kOK_refl (W := W_X5_buyerOf) K
  unfold F_X5_buyerOf
  show G m _ (0, [(0, .inl (.ref q0)), (1, .inl (.int a1)), (2, .inl (.int a2))], [], h, 0, 0)
  refine k_steps HG 2 (zB_iff.mpr (?_ : G m _ (2, [(0, .inl (.ref q0)), (1, .inl (.int a1)), (2, .inl (.int a2))], [.inl (.int a1), .inl (.ref q0)], h, 0, 0)))
  refine k_cVI HG (E' := ze_X5_isBuyer) (Or.inl ⟨rfl, rfl⟩) hsc rfl rfl rfl rfl rfl (fun hh => x_X5_isBuyer hsc K.1 hq_q0 hh) (fun y1 => (?_ : G m _ (5, [(0, .inl (.ref q0)), (1, .inl (.int a1)), (2, .inl (.int a2))], [.inl (.int y1)], h, 0, 0)))
  refine k_steps HG 1 (kb_ne (x := y1) (y := (0 : Int32)) ?_ ?_)
  · show G m _ (15, [(0, .inl (.ref q0)), (1, .inl (.int a1)), (2, .inl (.int a2))], [], h, 0, 0)
    refine k_steps HG 1 (zB_iff.mpr (?_ : G m _ (16, [(0, .inl (.ref q0)), (1, .inl (.int a1)), (2, .inl (.int a2))], [.inl (.int a2)], h, 0, 0)))
    refine g_tsw (k_walk HG) (d := 66) (lo := 0) (hi := 3) (offs := #[32, 39, 45, 56]) rfl (x := a2) rfl (fun hs2 => zB_iff.mpr ?_) (And.intro (fun hs2 => zB_iff.mpr ?_) (And.intro (fun hs2 => zB_iff.mpr ?_) (And.intro (fun hs2 => zB_iff.mpr ?_) (And.intro (fun hs2 => zB_iff.mpr ?_) trivial))))
    · show G m _ (82, [(0, .inl (.ref q0)), (1, .inl (.int a1)), (2, .inl (.int a2))], [], h, 0, 0)
      refine k_neg (k_swn (lo := 0) (hi := 3) hs2 (by decide)) ?_
      refine k_neg (k_swn (lo := 0) (hi := 3) hs2 (by decide)) ?_
      refine k_neg (k_swn (lo := 0) (hi := 3) hs2 (by decide)) ?_
      refine k_neg (k_swn (lo := 0) (hi := 3) hs2 (by decide)) ?_
      refine k_steps HG 2 (zB_iff.mpr (?_ : G m _ (85, [(0, .inl (.ref q0)), (1, .inl (.int a1)), (2, .inl (.int a2))], [.inl (.int (-2 : Int32)), .inl (.ref q0)], h, 0, 0)))
      refine k_cVIH HG (E' := ze_X5_refuse) (Or.inl ⟨rfl, rfl⟩) hsc rfl rfl rfl rfl rfl K rfl (fun hh => x_X5_refuse hsc K.1 hq_q0 hh) (fun y3 K3 => (?_ : G m _ (88, [(0, .inl (.ref q0)), (1, .inl (.int a1)), (2, .inl (.int a2))], [.inl (.int y3.1)], y3.2, 0, 0)))
      exact k_reti HG rfl rfl (fun e1 e2 => hR _ _ e1 e2 K3)
    · show G m _ (48, [(0, .inl (.ref q0)), (1, .inl (.int a1)), (2, .inl (.int a2))], [], h, 0, 0)
      have hs2 : a2 = (0 : Int32) := k_sw hs2 rfl
      refine k_pos hs2 ?_
      refine k_steps HG 1 (zB_iff.mpr (?_ : G m _ (49, [(0, .inl (.ref q0)), (1, .inl (.int a1)), (2, .inl (.int a2))], [.inl (.ref q0)], h, 0, 0)))
      refine k_getR HG rfl K hq_q0 rfl (Nat.le_of_ble_eq_true rfl) rfl rfl (fun t4 => (?_ : G m _ (52, [(0, .inl (.ref q0)), (1, .inl (.int a1)), (2, .inl (.int a2))], [.inl (.ref (hr h q0 24))], h, 0, 0)))
      refine k_steps HG 1 (zB_iff.mpr (?_ : G m _ (53, [(0, .inl (.ref q0)), (1, .inl (.int a1)), (2, .inl (.int a2))], [.inl (.int a1), .inl (.ref (hr h q0 24))], h, 0, 0)))
      refine k_iald HG rfl K t4 rfl (fun _ => rfl) (?_ : G m _ (54, [(0, .inl (.ref q0)), (1, .inl (.int a1)), (2, .inl (.int a2))], [.inl (.int (hv h (hr h q0 24) a1.toNatClampNeg))], h, 0, 0))
      exact k_reti HG rfl rfl (fun e1 e2 => hR _ _ e1 e2 K)
    · show G m _ (55, [(0, .inl (.ref q0)), (1, .inl (.int a1)), (2, .inl (.int a2))], [], h, 0, 0)
      have hs2 : a2 = (1 : Int32) := k_sw hs2 rfl
      refine k_neg (by rw [hs2]; decide) ?_
      refine k_pos hs2 ?_
      refine k_steps HG 2 (zB_iff.mpr (?_ : G m _ (57, [(0, .inl (.ref q0)), (1, .inl (.int a1)), (2, .inl (.int a2))], [.inl (.int a1), .inl (.ref q0)], h, 0, 0)))
      refine k_cVI HG (E' := ze_X5_owned) (Or.inl ⟨rfl, rfl⟩) hsc rfl rfl rfl rfl rfl (fun hh => x_X5_owned hsc K.1 hq_q0 hh) (fun y5 => (?_ : G m _ (60, [(0, .inl (.ref q0)), (1, .inl (.int a1)), (2, .inl (.int a2))], [.inl (.int y5)], h, 0, 0)))
      exact k_reti HG rfl rfl (fun e1 e2 => hR _ _ e1 e2 K)
    · show G m _ (61, [(0, .inl (.ref q0)), (1, .inl (.int a1)), (2, .inl (.int a2))], [], h, 0, 0)
      have hs2 : a2 = (2 : Int32) := k_sw hs2 rfl
      refine k_neg (by rw [hs2]; decide) ?_
      refine k_neg (by rw [hs2]; decide) ?_
      refine k_pos hs2 ?_
      refine k_steps HG 4 (zB_iff.mpr (?_ : G m _ (65, [(0, .inl (.ref q0)), (1, .inl (.int a1)), (2, .inl (.int a2))], [.inl (.int a1), .inl (.ref q0), .inl (.int a1), .inl (.ref q0)], h, 0, 0)))
      refine k_cVI HG (E' := ze_X5_owned) (Or.inl ⟨rfl, rfl⟩) hsc rfl rfl rfl rfl rfl (fun hh => x_X5_owned hsc K.1 hq_q0 hh) (fun y6 => (?_ : G m _ (68, [(0, .inl (.ref q0)), (1, .inl (.int a1)), (2, .inl (.int a2))], [.inl (.int y6), .inl (.int a1), .inl (.ref q0)], h, 0, 0)))
      refine k_cVI HG (E' := ze_X5_liked) (Or.inl ⟨rfl, rfl⟩) hsc rfl rfl rfl rfl rfl (fun hh => x_X5_liked hsc K.1 hq_q0 hh) (fun y7 => (?_ : G m _ (71, [(0, .inl (.ref q0)), (1, .inl (.int a1)), (2, .inl (.int a2))], [.inl (.int y7)], h, 0, 0)))
      exact k_reti HG rfl rfl (fun e1 e2 => hR _ _ e1 e2 K)
    · show G m _ (72, [(0, .inl (.ref q0)), (1, .inl (.int a1)), (2, .inl (.int a2))], [], h, 0, 0)
      have hs2 : a2 = (3 : Int32) := k_sw hs2 rfl
      refine k_neg (by rw [hs2]; decide) ?_
      refine k_neg (by rw [hs2]; decide) ?_
      refine k_neg (by rw [hs2]; decide) ?_
      refine k_pos hs2 ?_
      refine k_steps HG 3 (zB_iff.mpr (?_ : G m _ (75, [(0, .inl (.ref q0)), (1, .inl (.int a1)), (2, .inl (.int a2))], [.inl (.ref q0), .inl (.int a1), .inl (.ref q0)], h, 0, 0)))
      refine k_cVI HG (E' := ze_X5_standing) (Or.inl ⟨rfl, rfl⟩) hsc rfl rfl rfl rfl rfl (fun hh => x_X5_standing hsc K.1 hq_q0 hh) (fun y8 => (?_ : G m _ (78, [(0, .inl (.ref q0)), (1, .inl (.int a1)), (2, .inl (.int a2))], [.inl (.int y8), .inl (.int a1), .inl (.ref q0)], h, 0, 0)))
      refine k_cVI HG (E' := ze_X5_liked) (Or.inl ⟨rfl, rfl⟩) hsc rfl rfl rfl rfl rfl (fun hh => x_X5_liked hsc K.1 hq_q0 hh) (fun y9 => (?_ : G m _ (81, [(0, .inl (.ref q0)), (1, .inl (.int a1)), (2, .inl (.int a2))], [.inl (.int y9)], h, 0, 0)))
      exact k_reti HG rfl rfl (fun e1 e2 => hR _ _ e1 e2 K)
  · show G m _ (8, [(0, .inl (.ref q0)), (1, .inl (.int a1)), (2, .inl (.int a2))], [], h, 0, 0)
    refine k_steps HG 2 (zB_iff.mpr (?_ : G m _ (11, [(0, .inl (.ref q0)), (1, .inl (.int a1)), (2, .inl (.int a2))], [.inl (.int (-2 : Int32)), .inl (.ref q0)], h, 0, 0)))
    refine k_cVIH HG (E' := ze_X5_refuse) (Or.inl ⟨rfl, rfl⟩) hsc rfl rfl rfl rfl rfl K rfl (fun hh => x_X5_refuse hsc K.1 hq_q0 hh) (fun y10 K10 => (?_ : G m _ (14, [(0, .inl (.ref q0)), (1, .inl (.int a1)), (2, .inl (.int a2))], [.inl (.int y10.1)], y10.2, 0, 0)))
    exact k_reti HG rfl rfl (fun e1 e2 => hR _ _ e1 e2 K10)
def W_X5_comesOn : List (Nat × Nat) := [(43, 1000)]
noncomputable def B_X5_comesOn_16 (c0 : Nat) (c1 : Int32) (c2 : Int32) (c3 : Int32) (c4 : Nat) (s : (Int32 × zH)) : (Int32 × zH) ⊕ (zH) := (if s.1 < (hv s.2 c0 17) then (if ((c1 >>> (s.1 &&& 31)) &&& (1 : Int32)) = (0 : Int32) then (Sum.inl ((s.1 + (1 : Int32)), s.2)) else (letf (F_X5_isFree s.2 c0 s.1 ((hv s.2 c0 13) + c2) c3) (fun y1001 => (if y1001 = (0 : Int32) then (Sum.inl ((s.1 + (1 : Int32)), s.2)) else (letf (F_X5_wonBy s.2 c0 s.1 c1) (fun y1002 => (letf (hput s.2 c4 (c1 &&& (y1002 ^^^ (-1 : Int32))).toNatClampNeg (.inl (.int ((1 : Int32) &&& 1)))) (fun h1003 => (Sum.inl ((s.1 + (1 : Int32)), h1003)))))))))) else (Sum.inr s.2))
noncomputable def F_X5_comesOn (h : zH) (q0 : Nat) (a1 : Int32) (a2 : Int32) (a3 : Int32) (q4 : Nat) : zH := (letf (F_X5_bits a1) (fun y1 => (if y1 < a3 then (letf (hput h q4 a1.toNatClampNeg (.inl (.int ((1 : Int32) &&& 1)))) (fun h6 => (fx (B_X5_comesOn_16 q0 a1 a2 a3 q4) [] ((0 : Int32), h6)))) else (fx (B_X5_comesOn_16 q0 a1 a2 a3 q4) [] ((0 : Int32), h)))))
theorem x_X5_comesOn {scr : List zV} {T : List Nat} {h : zH} {q0 : Nat} {a1 : Int32} {a2 : Int32} {a3 : Int32} {q4 : Nat} (hsc : cT scr) (K : hOK kty T h) (hq_q0 : T[q0]? = some 5) (hq_q4 : T[q4]? = some 43) (hh : cH h) : xH scr W_X5_comesOn T T 168 [.inl (.ref q0), .inl (.int a1), .inl (.int a2), .inl (.int a3), .inl (.ref q4)] h (F_X5_comesOn h q0 a1 a2 a3 q4) := by
  refine xH_intro (E := ze_X5_comesOn) hsc rfl (cTb_ok rfl) hh (fun d r h' G HG Pf hR m => ?_)
  have K := kOK_refl (W := W_X5_comesOn) K
  unfold F_X5_comesOn
  show G m _ (0, [(0, .inl (.ref q0)), (1, .inl (.int a1)), (2, .inl (.int a2)), (3, .inl (.int a3)), (4, .inl (.ref q4))], [], h, 0, 0)
  refine k_steps HG 2 (zB_iff.mpr (?_ : G m _ (2, [(0, .inl (.ref q0)), (1, .inl (.int a1)), (2, .inl (.int a2)), (3, .inl (.int a3)), (4, .inl (.ref q4))], [.inl (.int a1), .inl (.int a3)], h, 0, 0)))
  refine k_cSI HG (E' := ze_X5_bits) (Or.inl rfl) hsc rfl rfl rfl rfl (fun hh => x_X5_bits hsc hh) (fun y1 => (?_ : G m _ (5, [(0, .inl (.ref q0)), (1, .inl (.int a1)), (2, .inl (.int a2)), (3, .inl (.int a3)), (4, .inl (.ref q4))], [.inl (.int y1), .inl (.int a3)], h, 0, 0)))
  refine k_steps HG 1 (kb_le (x := a3) (y := y1) ?_ ?_)
  · show G m _ (13, [(0, .inl (.ref q0)), (1, .inl (.int a1)), (2, .inl (.int a2)), (3, .inl (.int a3)), (4, .inl (.ref q4))], [], h, 0, 0)
    refine k_steps HG 2 (zB_iff.mpr (?_ : G m _ (16, [(5, .inl (.int (0 : Int32))), (0, .inl (.ref q0)), (1, .inl (.int a1)), (2, .inl (.int a2)), (3, .inl (.int a3)), (4, .inl (.ref q4))], [], h, 0, 0)))
    have lp2 : ∀ m2, m2 ≤ m → ∀ (v2_5 : Int32) (h2 : zH), kOK W_X5_comesOn T T h h2 → G m2 (Pf (fx (B_X5_comesOn_16 q0 a1 a2 a3 q4) [] (v2_5, h2))) (16, [(0, .inl (.ref q0)), (1, .inl (.int a1)), (2, .inl (.int a2)), (3, .inl (.int a3)), (4, .inl (.ref q4)), (5, .inl (.int v2_5))], [], h2, 0, 0) := by
      intro m2
      induction m2 with
      | zero =>
        intros
        exact k_zero HG
      | succ m2 ih2 =>
        intro le2 v2_5 h2 K2
        have le2 := Nat.le_of_succ_le le2
        have ih2 := ih2 le2
        refine k_fx ?_
        rw [B_X5_comesOn_16]
        refine k_first HG 1 (zB_iff.mpr (?_ : G m2 _ (19, [(0, .inl (.ref q0)), (1, .inl (.int a1)), (2, .inl (.int a2)), (3, .inl (.int a3)), (4, .inl (.ref q4)), (5, .inl (.int v2_5))], [.inl (.ref q0), .inl (.int v2_5)], h2, 0, 0)))
        refine k_getI HG rfl K2 hq_q0 rfl (Nat.le_of_ble_eq_true rfl) rfl (?_ : G m2 _ (22, [(0, .inl (.ref q0)), (1, .inl (.int a1)), (2, .inl (.int a2)), (3, .inl (.int a3)), (4, .inl (.ref q4)), (5, .inl (.int v2_5))], [.inl (.int (hv h2 q0 17)), .inl (.int v2_5)], h2, 0, 0))
        refine k_steps HG 1 (kb_ge (x := v2_5) (y := (hv h2 q0 17)) ?_ ?_)
        · show G m2 _ (71, [(0, .inl (.ref q0)), (1, .inl (.int a1)), (2, .inl (.int a2)), (3, .inl (.int a3)), (4, .inl (.ref q4)), (5, .inl (.int v2_5))], [], h2, 0, 0)
          exact k_retv HG rfl rfl (fun e1 e2 => hR _ e1 e2 K2)
        · show G m2 _ (25, [(0, .inl (.ref q0)), (1, .inl (.int a1)), (2, .inl (.int a2)), (3, .inl (.int a3)), (4, .inl (.ref q4)), (5, .inl (.int v2_5))], [], h2, 0, 0)
          refine k_steps HG 6 (kb_eq (x := ((a1 >>> (v2_5 &&& 31)) &&& (1 : Int32))) (y := (0 : Int32)) ?_ ?_)
          · show G m2 _ (65, [(0, .inl (.ref q0)), (1, .inl (.int a1)), (2, .inl (.int a2)), (3, .inl (.int a3)), (4, .inl (.ref q4)), (5, .inl (.int v2_5))], [], h2, 0, 0)
            refine k_steps HG 2 (zB_iff.mpr (?_ : G m2 _ (16, [(5, .inl (.int (v2_5 + (1 : Int32)))), (0, .inl (.ref q0)), (1, .inl (.int a1)), (2, .inl (.int a2)), (3, .inl (.int a3)), (4, .inl (.ref q4))], [], h2, 0, 0)))
            refine k_ext HG (L' := [(0, .inl (.ref q0)), (1, .inl (.int a1)), (2, .inl (.int a2)), (3, .inl (.int a3)), (4, .inl (.ref q4)), (5, .inl (.int (v2_5 + (1 : Int32))))]) rfl rfl ⟨rfl, rfl, rfl, rfl, rfl, rfl, trivial⟩ ?_
            exact ih2 _ _ K2
          · show G m2 _ (34, [(0, .inl (.ref q0)), (1, .inl (.int a1)), (2, .inl (.int a2)), (3, .inl (.int a3)), (4, .inl (.ref q4)), (5, .inl (.int v2_5))], [], h2, 0, 0)
            refine k_steps HG 3 (zB_iff.mpr (?_ : G m2 _ (38, [(0, .inl (.ref q0)), (1, .inl (.int a1)), (2, .inl (.int a2)), (3, .inl (.int a3)), (4, .inl (.ref q4)), (5, .inl (.int v2_5))], [.inl (.ref q0), .inl (.int v2_5), .inl (.ref q0)], h2, 0, 0)))
            refine k_getI HG rfl K2 hq_q0 rfl (Nat.le_of_ble_eq_true rfl) rfl (?_ : G m2 _ (41, [(0, .inl (.ref q0)), (1, .inl (.int a1)), (2, .inl (.int a2)), (3, .inl (.int a3)), (4, .inl (.ref q4)), (5, .inl (.int v2_5))], [.inl (.int (hv h2 q0 13)), .inl (.int v2_5), .inl (.ref q0)], h2, 0, 0))
            refine k_steps HG 3 (zB_iff.mpr (?_ : G m2 _ (44, [(0, .inl (.ref q0)), (1, .inl (.int a1)), (2, .inl (.int a2)), (3, .inl (.int a3)), (4, .inl (.ref q4)), (5, .inl (.int v2_5))], [.inl (.int a3), .inl (.int ((hv h2 q0 13) + a2)), .inl (.int v2_5), .inl (.ref q0)], h2, 0, 0)))
            refine k_cVI HG (E' := ze_X5_isFree) (Or.inl ⟨rfl, rfl⟩) hsc rfl rfl rfl rfl rfl (fun hh => x_X5_isFree hsc K2.1 hq_q0 hh) (fun y3 => (?_ : G m2 _ (47, [(0, .inl (.ref q0)), (1, .inl (.int a1)), (2, .inl (.int a2)), (3, .inl (.int a3)), (4, .inl (.ref q4)), (5, .inl (.int v2_5))], [.inl (.int y3)], h2, 0, 0)))
            refine k_steps HG 1 (kb_eq (x := y3) (y := (0 : Int32)) ?_ ?_)
            · show G m2 _ (65, [(0, .inl (.ref q0)), (1, .inl (.int a1)), (2, .inl (.int a2)), (3, .inl (.int a3)), (4, .inl (.ref q4)), (5, .inl (.int v2_5))], [], h2, 0, 0)
              refine k_steps HG 2 (zB_iff.mpr (?_ : G m2 _ (16, [(5, .inl (.int (v2_5 + (1 : Int32)))), (0, .inl (.ref q0)), (1, .inl (.int a1)), (2, .inl (.int a2)), (3, .inl (.int a3)), (4, .inl (.ref q4))], [], h2, 0, 0)))
              refine k_ext HG (L' := [(0, .inl (.ref q0)), (1, .inl (.int a1)), (2, .inl (.int a2)), (3, .inl (.int a3)), (4, .inl (.ref q4)), (5, .inl (.int (v2_5 + (1 : Int32))))]) rfl rfl ⟨rfl, rfl, rfl, rfl, rfl, rfl, trivial⟩ ?_
              exact ih2 _ _ K2
            · show G m2 _ (50, [(0, .inl (.ref q0)), (1, .inl (.int a1)), (2, .inl (.int a2)), (3, .inl (.int a3)), (4, .inl (.ref q4)), (5, .inl (.int v2_5))], [], h2, 0, 0)
              refine k_steps HG 5 (zB_iff.mpr (?_ : G m2 _ (57, [(0, .inl (.ref q0)), (1, .inl (.int a1)), (2, .inl (.int a2)), (3, .inl (.int a3)), (4, .inl (.ref q4)), (5, .inl (.int v2_5))], [.inl (.int a1), .inl (.int v2_5), .inl (.ref q0), .inl (.int a1), .inl (.ref q4)], h2, 0, 0)))
              refine k_cVI HG (E' := ze_X5_wonBy) (Or.inl ⟨rfl, rfl⟩) hsc rfl rfl rfl rfl rfl (fun hh => x_X5_wonBy hsc K2.1 hq_q0 hh) (fun y4 => (?_ : G m2 _ (60, [(0, .inl (.ref q0)), (1, .inl (.int a1)), (2, .inl (.int a2)), (3, .inl (.int a3)), (4, .inl (.ref q4)), (5, .inl (.int v2_5))], [.inl (.int y4), .inl (.int a1), .inl (.ref q4)], h2, 0, 0)))
              refine k_steps HG 4 (zB_iff.mpr (?_ : G m2 _ (64, [(0, .inl (.ref q0)), (1, .inl (.int a1)), (2, .inl (.int a2)), (3, .inl (.int a3)), (4, .inl (.ref q4)), (5, .inl (.int v2_5))], [.inl (.int (1 : Int32)), .inl (.int (a1 &&& (y4 ^^^ (-1 : Int32)))), .inl (.ref q4)], h2, 0, 0)))
              refine k_bast HG rfl K2 hq_q4 rfl (fun _ => rfl) rfl (fun h5 K5 => (?_ : G m2 _ (65, [(0, .inl (.ref q0)), (1, .inl (.int a1)), (2, .inl (.int a2)), (3, .inl (.int a3)), (4, .inl (.ref q4)), (5, .inl (.int v2_5))], [], h5, 0, 0)))
              refine k_steps HG 2 (zB_iff.mpr (?_ : G m2 _ (16, [(5, .inl (.int (v2_5 + (1 : Int32)))), (0, .inl (.ref q0)), (1, .inl (.int a1)), (2, .inl (.int a2)), (3, .inl (.int a3)), (4, .inl (.ref q4))], [], h5, 0, 0)))
              refine k_ext HG (L' := [(0, .inl (.ref q0)), (1, .inl (.int a1)), (2, .inl (.int a2)), (3, .inl (.int a3)), (4, .inl (.ref q4)), (5, .inl (.int (v2_5 + (1 : Int32))))]) rfl rfl ⟨rfl, rfl, rfl, rfl, rfl, rfl, trivial⟩ ?_
              exact ih2 _ _ K5
    refine k_ext HG (L' := [(0, .inl (.ref q0)), (1, .inl (.int a1)), (2, .inl (.int a2)), (3, .inl (.int a3)), (4, .inl (.ref q4)), (5, .inl (.int (0 : Int32)))]) rfl rfl ⟨rfl, rfl, rfl, rfl, rfl, rfl, trivial⟩ ?_
    exact lp2 m (Nat.le_refl _) _ _ K
  · show G m _ (8, [(0, .inl (.ref q0)), (1, .inl (.int a1)), (2, .inl (.int a2)), (3, .inl (.int a3)), (4, .inl (.ref q4))], [], h, 0, 0)
    refine k_steps HG 3 (zB_iff.mpr (?_ : G m _ (12, [(0, .inl (.ref q0)), (1, .inl (.int a1)), (2, .inl (.int a2)), (3, .inl (.int a3)), (4, .inl (.ref q4))], [.inl (.int (1 : Int32)), .inl (.int a1), .inl (.ref q4)], h, 0, 0)))
    refine k_bast HG rfl K hq_q4 rfl (fun _ => rfl) rfl (fun h6 K6 => (?_ : G m _ (13, [(0, .inl (.ref q0)), (1, .inl (.int a1)), (2, .inl (.int a2)), (3, .inl (.int a3)), (4, .inl (.ref q4))], [], h6, 0, 0)))
    refine k_steps HG 2 (zB_iff.mpr (?_ : G m _ (16, [(5, .inl (.int (0 : Int32))), (0, .inl (.ref q0)), (1, .inl (.int a1)), (2, .inl (.int a2)), (3, .inl (.int a3)), (4, .inl (.ref q4))], [], h6, 0, 0)))
    have lp7 : ∀ m7, m7 ≤ m → ∀ (v7_5 : Int32) (h7 : zH), kOK W_X5_comesOn T T h h7 → G m7 (Pf (fx (B_X5_comesOn_16 q0 a1 a2 a3 q4) [] (v7_5, h7))) (16, [(0, .inl (.ref q0)), (1, .inl (.int a1)), (2, .inl (.int a2)), (3, .inl (.int a3)), (4, .inl (.ref q4)), (5, .inl (.int v7_5))], [], h7, 0, 0) := by
      intro m7
      induction m7 with
      | zero =>
        intros
        exact k_zero HG
      | succ m7 ih7 =>
        intro le7 v7_5 h7 K7
        have le7 := Nat.le_of_succ_le le7
        have ih7 := ih7 le7
        refine k_fx ?_
        rw [B_X5_comesOn_16]
        refine k_first HG 1 (zB_iff.mpr (?_ : G m7 _ (19, [(0, .inl (.ref q0)), (1, .inl (.int a1)), (2, .inl (.int a2)), (3, .inl (.int a3)), (4, .inl (.ref q4)), (5, .inl (.int v7_5))], [.inl (.ref q0), .inl (.int v7_5)], h7, 0, 0)))
        refine k_getI HG rfl K7 hq_q0 rfl (Nat.le_of_ble_eq_true rfl) rfl (?_ : G m7 _ (22, [(0, .inl (.ref q0)), (1, .inl (.int a1)), (2, .inl (.int a2)), (3, .inl (.int a3)), (4, .inl (.ref q4)), (5, .inl (.int v7_5))], [.inl (.int (hv h7 q0 17)), .inl (.int v7_5)], h7, 0, 0))
        refine k_steps HG 1 (kb_ge (x := v7_5) (y := (hv h7 q0 17)) ?_ ?_)
        · show G m7 _ (71, [(0, .inl (.ref q0)), (1, .inl (.int a1)), (2, .inl (.int a2)), (3, .inl (.int a3)), (4, .inl (.ref q4)), (5, .inl (.int v7_5))], [], h7, 0, 0)
          exact k_retv HG rfl rfl (fun e1 e2 => hR _ e1 e2 K7)
        · show G m7 _ (25, [(0, .inl (.ref q0)), (1, .inl (.int a1)), (2, .inl (.int a2)), (3, .inl (.int a3)), (4, .inl (.ref q4)), (5, .inl (.int v7_5))], [], h7, 0, 0)
          refine k_steps HG 6 (kb_eq (x := ((a1 >>> (v7_5 &&& 31)) &&& (1 : Int32))) (y := (0 : Int32)) ?_ ?_)
          · show G m7 _ (65, [(0, .inl (.ref q0)), (1, .inl (.int a1)), (2, .inl (.int a2)), (3, .inl (.int a3)), (4, .inl (.ref q4)), (5, .inl (.int v7_5))], [], h7, 0, 0)
            refine k_steps HG 2 (zB_iff.mpr (?_ : G m7 _ (16, [(5, .inl (.int (v7_5 + (1 : Int32)))), (0, .inl (.ref q0)), (1, .inl (.int a1)), (2, .inl (.int a2)), (3, .inl (.int a3)), (4, .inl (.ref q4))], [], h7, 0, 0)))
            refine k_ext HG (L' := [(0, .inl (.ref q0)), (1, .inl (.int a1)), (2, .inl (.int a2)), (3, .inl (.int a3)), (4, .inl (.ref q4)), (5, .inl (.int (v7_5 + (1 : Int32))))]) rfl rfl ⟨rfl, rfl, rfl, rfl, rfl, rfl, trivial⟩ ?_
            exact ih7 _ _ K7
          · show G m7 _ (34, [(0, .inl (.ref q0)), (1, .inl (.int a1)), (2, .inl (.int a2)), (3, .inl (.int a3)), (4, .inl (.ref q4)), (5, .inl (.int v7_5))], [], h7, 0, 0)
            refine k_steps HG 3 (zB_iff.mpr (?_ : G m7 _ (38, [(0, .inl (.ref q0)), (1, .inl (.int a1)), (2, .inl (.int a2)), (3, .inl (.int a3)), (4, .inl (.ref q4)), (5, .inl (.int v7_5))], [.inl (.ref q0), .inl (.int v7_5), .inl (.ref q0)], h7, 0, 0)))
            refine k_getI HG rfl K7 hq_q0 rfl (Nat.le_of_ble_eq_true rfl) rfl (?_ : G m7 _ (41, [(0, .inl (.ref q0)), (1, .inl (.int a1)), (2, .inl (.int a2)), (3, .inl (.int a3)), (4, .inl (.ref q4)), (5, .inl (.int v7_5))], [.inl (.int (hv h7 q0 13)), .inl (.int v7_5), .inl (.ref q0)], h7, 0, 0))
            refine k_steps HG 3 (zB_iff.mpr (?_ : G m7 _ (44, [(0, .inl (.ref q0)), (1, .inl (.int a1)), (2, .inl (.int a2)), (3, .inl (.int a3)), (4, .inl (.ref q4)), (5, .inl (.int v7_5))], [.inl (.int a3), .inl (.int ((hv h7 q0 13) + a2)), .inl (.int v7_5), .inl (.ref q0)], h7, 0, 0)))
            refine k_cVI HG (E' := ze_X5_isFree) (Or.inl ⟨rfl, rfl⟩) hsc rfl rfl rfl rfl rfl (fun hh => x_X5_isFree hsc K7.1 hq_q0 hh) (fun y8 => (?_ : G m7 _ (47, [(0, .inl (.ref q0)), (1, .inl (.int a1)), (2, .inl (.int a2)), (3, .inl (.int a3)), (4, .inl (.ref q4)), (5, .inl (.int v7_5))], [.inl (.int y8)], h7, 0, 0)))
            refine k_steps HG 1 (kb_eq (x := y8) (y := (0 : Int32)) ?_ ?_)
            · show G m7 _ (65, [(0, .inl (.ref q0)), (1, .inl (.int a1)), (2, .inl (.int a2)), (3, .inl (.int a3)), (4, .inl (.ref q4)), (5, .inl (.int v7_5))], [], h7, 0, 0)
              refine k_steps HG 2 (zB_iff.mpr (?_ : G m7 _ (16, [(5, .inl (.int (v7_5 + (1 : Int32)))), (0, .inl (.ref q0)), (1, .inl (.int a1)), (2, .inl (.int a2)), (3, .inl (.int a3)), (4, .inl (.ref q4))], [], h7, 0, 0)))
              refine k_ext HG (L' := [(0, .inl (.ref q0)), (1, .inl (.int a1)), (2, .inl (.int a2)), (3, .inl (.int a3)), (4, .inl (.ref q4)), (5, .inl (.int (v7_5 + (1 : Int32))))]) rfl rfl ⟨rfl, rfl, rfl, rfl, rfl, rfl, trivial⟩ ?_
              exact ih7 _ _ K7
            · show G m7 _ (50, [(0, .inl (.ref q0)), (1, .inl (.int a1)), (2, .inl (.int a2)), (3, .inl (.int a3)), (4, .inl (.ref q4)), (5, .inl (.int v7_5))], [], h7, 0, 0)
              refine k_steps HG 5 (zB_iff.mpr (?_ : G m7 _ (57, [(0, .inl (.ref q0)), (1, .inl (.int a1)), (2, .inl (.int a2)), (3, .inl (.int a3)), (4, .inl (.ref q4)), (5, .inl (.int v7_5))], [.inl (.int a1), .inl (.int v7_5), .inl (.ref q0), .inl (.int a1), .inl (.ref q4)], h7, 0, 0)))
              refine k_cVI HG (E' := ze_X5_wonBy) (Or.inl ⟨rfl, rfl⟩) hsc rfl rfl rfl rfl rfl (fun hh => x_X5_wonBy hsc K7.1 hq_q0 hh) (fun y9 => (?_ : G m7 _ (60, [(0, .inl (.ref q0)), (1, .inl (.int a1)), (2, .inl (.int a2)), (3, .inl (.int a3)), (4, .inl (.ref q4)), (5, .inl (.int v7_5))], [.inl (.int y9), .inl (.int a1), .inl (.ref q4)], h7, 0, 0)))
              refine k_steps HG 4 (zB_iff.mpr (?_ : G m7 _ (64, [(0, .inl (.ref q0)), (1, .inl (.int a1)), (2, .inl (.int a2)), (3, .inl (.int a3)), (4, .inl (.ref q4)), (5, .inl (.int v7_5))], [.inl (.int (1 : Int32)), .inl (.int (a1 &&& (y9 ^^^ (-1 : Int32)))), .inl (.ref q4)], h7, 0, 0)))
              refine k_bast HG rfl K7 hq_q4 rfl (fun _ => rfl) rfl (fun h10 K10 => (?_ : G m7 _ (65, [(0, .inl (.ref q0)), (1, .inl (.int a1)), (2, .inl (.int a2)), (3, .inl (.int a3)), (4, .inl (.ref q4)), (5, .inl (.int v7_5))], [], h10, 0, 0)))
              refine k_steps HG 2 (zB_iff.mpr (?_ : G m7 _ (16, [(5, .inl (.int (v7_5 + (1 : Int32)))), (0, .inl (.ref q0)), (1, .inl (.int a1)), (2, .inl (.int a2)), (3, .inl (.int a3)), (4, .inl (.ref q4))], [], h10, 0, 0)))
              refine k_ext HG (L' := [(0, .inl (.ref q0)), (1, .inl (.int a1)), (2, .inl (.int a2)), (3, .inl (.int a3)), (4, .inl (.ref q4)), (5, .inl (.int (v7_5 + (1 : Int32))))]) rfl rfl ⟨rfl, rfl, rfl, rfl, rfl, rfl, trivial⟩ ?_
              exact ih7 _ _ K10
    refine k_ext HG (L' := [(0, .inl (.ref q0)), (1, .inl (.int a1)), (2, .inl (.int a2)), (3, .inl (.int a3)), (4, .inl (.ref q4)), (5, .inl (.int (0 : Int32)))]) rfl rfl ⟨rfl, rfl, rfl, rfl, rfl, rfl, trivial⟩ ?_
    exact lp7 m (Nat.le_refl _) _ _ K6
