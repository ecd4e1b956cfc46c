def W_X2_readThing : List (Nat × Nat) := [(1, 8), (2, 2), (2, 3), (2, 4), (2, 5), (11, 1000), (12, 1000), (13, 1000), (14, 1000), (15, 1000)]
noncomputable def F_X2_readThing (h : zH) (q0 : Nat) (q1 : Nat) : Int32 × zH := (if (hv h q1 8) < (8 : Int32) then (letf (F_X2_readNumber h q0 (0 : Int32) (5 : Int32)) (fun y1 => (if y1.1 = (0 : Int32) then ((0 : Int32), y1.2) else (letf (F_X2_readNumber y1.2 q0 (1 : Int32) (hv y1.2 q1 0)) (fun y2 => (if y2.1 = (0 : Int32) then ((0 : Int32), y2.2) else (letf (F_X1_isWinner y2.2 q1 (hv y2.2 q0 5)) (fun y3 => (if y3 = (0 : Int32) then ((0 : Int32), y2.2) else (letf (F_X1_isFreeForThing y2.2 q1 (hv y2.2 q0 5)) (fun y4 => (if y4 = (0 : Int32) then ((0 : Int32), y2.2) else (letf (F_X2_readNumber y2.2 q0 (0 : Int32) (9 : Int32)) (fun y5 => (if y5.1 = (0 : Int32) then ((0 : Int32), y5.2) else (letf (F_X1_addThing y5.2 q1 (hv y1.2 q0 5) (hv y2.2 q0 5) (hv y5.2 q0 5)) (fun y6 => (letf (F_X2_step y6.2 q0) (fun h7 => ((1 : Int32), h7)))))))))))))))))))) else ((0 : Int32), h))
theorem x_X2_readThing {scr : List zV} {T : List Nat} {h : zH} {q0 : Nat} {q1 : Nat} (hsc : cT scr) (K : hOK kty T h) (hq_q0 : T[q0]? = some 2) (hq_q1 : T[q1]? = some 1) (hh : cH h) : xIH scr W_X2_readThing T T 73 [.inl (.ref q0), .inl (.ref q1)] h (F_X2_readThing h q0 q1) := by
  refine xIH_intro (E := ze_X2_readThing) hsc rfl (cTb_ok rfl) hh (fun d r h' G HG Pf hR m => ?_)
  have K := kOK_refl (W := W_X2_readThing) K
  unfold F_X2_readThing
  show G m _ (0, [(0, .inl (.ref q0)), (1, .inl (.ref q1))], [], h, 0, 0)
  refine k_steps HG 1 (zB_iff.mpr (?_ : G m _ (1, [(0, .inl (.ref q0)), (1, .inl (.ref q1))], [.inl (.ref q1)], h, 0, 0)))
  refine k_getI HG rfl K hq_q1 rfl (Nat.le_of_ble_eq_true rfl) rfl (?_ : G m _ (4, [(0, .inl (.ref q0)), (1, .inl (.ref q1))], [.inl (.int (hv h q1 8))], h, 0, 0))
  refine k_steps HG 2 (kb_ge (x := (hv h q1 8)) (y := (8 : Int32)) ?_ ?_)
  · show G m _ (18, [(0, .inl (.ref q0)), (1, .inl (.ref q1))], [], h, 0, 0)
    refine k_steps HG 1 (zB_iff.mpr (?_ : G m _ (19, [(0, .inl (.ref q0)), (1, .inl (.ref q1))], [.inl (.int (0 : Int32))], h, 0, 0)))
    exact k_retz HG rfl rfl (fun e1 e2 => hR _ _ e1 e2 K)
  · show G m _ (9, [(0, .inl (.ref q0)), (1, .inl (.ref q1))], [], h, 0, 0)
    refine k_steps HG 3 (zB_iff.mpr (?_ : G m _ (12, [(0, .inl (.ref q0)), (1, .inl (.ref q1))], [.inl (.int (5 : Int32)), .inl (.int (0 : Int32)), .inl (.ref q0)], h, 0, 0)))
    refine k_cVIH HG (E' := ze_X2_readNumber) (Or.inl ⟨rfl, rfl⟩) hsc rfl rfl rfl rfl rfl K rfl (fun hh => x_X2_readNumber hsc K.1 hq_q0 hh) (fun y1 K1 => (?_ : G m _ (15, [(0, .inl (.ref q0)), (1, .inl (.ref q1))], [.inl (.int y1.1)], y1.2, 0, 0)))
    refine k_steps HG 1 (kb_ne (x := y1.1) (y := (0 : Int32)) ?_ ?_)
    · show G m _ (20, [(0, .inl (.ref q0)), (1, .inl (.ref q1))], [], y1.2, 0, 0)
      refine k_steps HG 1 (zB_iff.mpr (?_ : G m _ (21, [(0, .inl (.ref q0)), (1, .inl (.ref q1))], [.inl (.ref q0)], y1.2, 0, 0)))
      refine k_getI HG rfl K1 hq_q0 rfl (Nat.le_of_ble_eq_true rfl) rfl (?_ : G m _ (24, [(0, .inl (.ref q0)), (1, .inl (.ref q1))], [.inl (.int (hv y1.2 q0 5))], y1.2, 0, 0))
      refine k_steps HG 4 (zB_iff.mpr (?_ : G m _ (28, [(2, .inl (.int (hv y1.2 q0 5))), (0, .inl (.ref q0)), (1, .inl (.ref q1))], [.inl (.ref q1), .inl (.int (1 : Int32)), .inl (.ref q0)], y1.2, 0, 0)))
      refine k_getI HG rfl K1 hq_q1 rfl (Nat.le_of_ble_eq_true rfl) rfl (?_ : G m _ (31, [(2, .inl (.int (hv y1.2 q0 5))), (0, .inl (.ref q0)), (1, .inl (.ref q1))], [.inl (.int (hv y1.2 q1 0)), .inl (.int (1 : Int32)), .inl (.ref q0)], y1.2, 0, 0))
      refine k_cVIH HG (E' := ze_X2_readNumber) (Or.inl ⟨rfl, rfl⟩) hsc rfl rfl rfl rfl rfl K1 rfl (fun hh => x_X2_readNumber hsc K1.1 hq_q0 hh) (fun y2 K2 => (?_ : G m _ (34, [(2, .inl (.int (hv y1.2 q0 5))), (0, .inl (.ref q0)), (1, .inl (.ref q1))], [.inl (.int y2.1)], y2.2, 0, 0)))
      refine k_steps HG 1 (kb_eq (x := y2.1) (y := (0 : Int32)) ?_ ?_)
      · show G m _ (59, [(2, .inl (.int (hv y1.2 q0 5))), (0, .inl (.ref q0)), (1, .inl (.ref q1))], [], y2.2, 0, 0)
        refine k_steps HG 1 (zB_iff.mpr (?_ : G m _ (60, [(2, .inl (.int (hv y1.2 q0 5))), (0, .inl (.ref q0)), (1, .inl (.ref q1))], [.inl (.int (0 : Int32))], y2.2, 0, 0)))
        exact k_retz HG rfl rfl (fun e1 e2 => hR _ _ e1 e2 K2)
      · show G m _ (37, [(2, .inl (.int (hv y1.2 q0 5))), (0, .inl (.ref q0)), (1, .inl (.ref q1))], [], y2.2, 0, 0)
        refine k_steps HG 2 (zB_iff.mpr (?_ : G m _ (39, [(2, .inl (.int (hv y1.2 q0 5))), (0, .inl (.ref q0)), (1, .inl (.ref q1))], [.inl (.ref q0), .inl (.ref q1)], y2.2, 0, 0)))
        refine k_getI HG rfl K2 hq_q0 rfl (Nat.le_of_ble_eq_true rfl) rfl (?_ : G m _ (42, [(2, .inl (.int (hv y1.2 q0 5))), (0, .inl (.ref q0)), (1, .inl (.ref q1))], [.inl (.int (hv y2.2 q0 5)), .inl (.ref q1)], y2.2, 0, 0))
        refine k_cVI HG (E' := ze_X1_isWinner) (Or.inl ⟨rfl, rfl⟩) hsc rfl rfl rfl rfl rfl (fun hh => x_X1_isWinner hsc K2.1 hq_q1 hh) (fun y3 => (?_ : G m _ (45, [(2, .inl (.int (hv y1.2 q0 5))), (0, .inl (.ref q0)), (1, .inl (.ref q1))], [.inl (.int y3)], y2.2, 0, 0)))
        refine k_steps HG 1 (kb_eq (x := y3) (y := (0 : Int32)) ?_ ?_)
        · show G m _ (59, [(2, .inl (.int (hv y1.2 q0 5))), (0, .inl (.ref q0)), (1, .inl (.ref q1))], [], y2.2, 0, 0)
          refine k_steps HG 1 (zB_iff.mpr (?_ : G m _ (60, [(2, .inl (.int (hv y1.2 q0 5))), (0, .inl (.ref q0)), (1, .inl (.ref q1))], [.inl (.int (0 : Int32))], y2.2, 0, 0)))
          exact k_retz HG rfl rfl (fun e1 e2 => hR _ _ e1 e2 K2)
        · show G m _ (48, [(2, .inl (.int (hv y1.2 q0 5))), (0, .inl (.ref q0)), (1, .inl (.ref q1))], [], y2.2, 0, 0)
          refine k_steps HG 2 (zB_iff.mpr (?_ : G m _ (50, [(2, .inl (.int (hv y1.2 q0 5))), (0, .inl (.ref q0)), (1, .inl (.ref q1))], [.inl (.ref q0), .inl (.ref q1)], y2.2, 0, 0)))
          refine k_getI HG rfl K2 hq_q0 rfl (Nat.le_of_ble_eq_true rfl) rfl (?_ : G m _ (53, [(2, .inl (.int (hv y1.2 q0 5))), (0, .inl (.ref q0)), (1, .inl (.ref q1))], [.inl (.int (hv y2.2 q0 5)), .inl (.ref q1)], y2.2, 0, 0))
          refine k_cVI HG (E' := ze_X1_isFreeForThing) (Or.inl ⟨rfl, rfl⟩) hsc rfl rfl rfl rfl rfl (fun hh => x_X1_isFreeForThing hsc K2.1 hq_q1 hh) (fun y4 => (?_ : G m _ (56, [(2, .inl (.int (hv y1.2 q0 5))), (0, .inl (.ref q0)), (1, .inl (.ref q1))], [.inl (.int y4)], y2.2, 0, 0)))
          refine k_steps HG 1 (kb_ne (x := y4) (y := (0 : Int32)) ?_ ?_)
          · show G m _ (61, [(2, .inl (.int (hv y1.2 q0 5))), (0, .inl (.ref q0)), (1, .inl (.ref q1))], [], y2.2, 0, 0)
            refine k_steps HG 1 (zB_iff.mpr (?_ : G m _ (62, [(2, .inl (.int (hv y1.2 q0 5))), (0, .inl (.ref q0)), (1, .inl (.ref q1))], [.inl (.ref q0)], y2.2, 0, 0)))
            refine k_getI HG rfl K2 hq_q0 rfl (Nat.le_of_ble_eq_true rfl) rfl (?_ : G m _ (65, [(2, .inl (.int (hv y1.2 q0 5))), (0, .inl (.ref q0)), (1, .inl (.ref q1))], [.inl (.int (hv y2.2 q0 5))], y2.2, 0, 0))
            refine k_steps HG 4 (zB_iff.mpr (?_ : G m _ (70, [(3, .inl (.int (hv y2.2 q0 5))), (2, .inl (.int (hv y1.2 q0 5))), (0, .inl (.ref q0)), (1, .inl (.ref q1))], [.inl (.int (9 : Int32)), .inl (.int (0 : Int32)), .inl (.ref q0)], y2.2, 0, 0)))
            refine k_cVIH HG (E' := ze_X2_readNumber) (Or.inl ⟨rfl, rfl⟩) hsc rfl rfl rfl rfl rfl K2 rfl (fun hh => x_X2_readNumber hsc K2.1 hq_q0 hh) (fun y5 K5 => (?_ : G m _ (73, [(3, .inl (.int (hv y2.2 q0 5))), (2, .inl (.int (hv y1.2 q0 5))), (0, .inl (.ref q0)), (1, .inl (.ref q1))], [.inl (.int y5.1)], y5.2, 0, 0)))
            refine k_steps HG 1 (kb_ne (x := y5.1) (y := (0 : Int32)) ?_ ?_)
            · show G m _ (78, [(3, .inl (.int (hv y2.2 q0 5))), (2, .inl (.int (hv y1.2 q0 5))), (0, .inl (.ref q0)), (1, .inl (.ref q1))], [], y5.2, 0, 0)
              refine k_steps HG 4 (zB_iff.mpr (?_ : G m _ (82, [(3, .inl (.int (hv y2.2 q0 5))), (2, .inl (.int (hv y1.2 q0 5))), (0, .inl (.ref q0)), (1, .inl (.ref q1))], [.inl (.ref q0), .inl (.int (hv y2.2 q0 5)), .inl (.int (hv y1.2 q0 5)), .inl (.ref q1)], y5.2, 0, 0)))
              refine k_getI HG rfl K5 hq_q0 rfl (Nat.le_of_ble_eq_true rfl) rfl (?_ : G m _ (85, [(3, .inl (.int (hv y2.2 q0 5))), (2, .inl (.int (hv y1.2 q0 5))), (0, .inl (.ref q0)), (1, .inl (.ref q1))], [.inl (.int (hv y5.2 q0 5)), .inl (.int (hv y2.2 q0 5)), .inl (.int (hv y1.2 q0 5)), .inl (.ref q1)], y5.2, 0, 0))
              refine k_cVIH HG (E' := ze_X1_addThing) (Or.inl ⟨rfl, rfl⟩) hsc rfl rfl rfl rfl rfl K5 rfl (fun hh => x_X1_addThing hsc K5.1 hq_q1 hh) (fun y6 K6 => (?_ : G m _ (88, [(3, .inl (.int (hv y2.2 q0 5))), (2, .inl (.int (hv y1.2 q0 5))), (0, .inl (.ref q0)), (1, .inl (.ref q1))], [.inl (.int y6.1)], y6.2, 0, 0)))
              refine k_steps HG 2 (zB_iff.mpr (?_ : G m _ (90, [(3, .inl (.int (hv y2.2 q0 5))), (2, .inl (.int (hv y1.2 q0 5))), (0, .inl (.ref q0)), (1, .inl (.ref q1))], [.inl (.ref q0)], y6.2, 0, 0)))
              refine k_cVH HG (E' := ze_X2_step) (Or.inl ⟨rfl, rfl⟩) hsc rfl rfl rfl rfl rfl K6 rfl (fun hh => x_X2_step hsc K6.1 hq_q0 hh) (fun h7 K7 => (?_ : G m _ (93, [(3, .inl (.int (hv y2.2 q0 5))), (2, .inl (.int (hv y1.2 q0 5))), (0, .inl (.ref q0)), (1, .inl (.ref q1))], [], h7, 0, 0)))
              refine k_steps HG 1 (zB_iff.mpr (?_ : G m _ (94, [(3, .inl (.int (hv y2.2 q0 5))), (2, .inl (.int (hv y1.2 q0 5))), (0, .inl (.ref q0)), (1, .inl (.ref q1))], [.inl (.int (1 : Int32))], h7, 0, 0)))
              exact k_retz HG rfl rfl (fun e1 e2 => hR _ _ e1 e2 K7)
            · show G m _ (76, [(3, .inl (.int (hv y2.2 q0 5))), (2, .inl (.int (hv y1.2 q0 5))), (0, .inl (.ref q0)), (1, .inl (.ref q1))], [], y5.2, 0, 0)
              refine k_steps HG 1 (zB_iff.mpr (?_ : G m _ (77, [(3, .inl (.int (hv y2.2 q0 5))), (2, .inl (.int (hv y1.2 q0 5))), (0, .inl (.ref q0)), (1, .inl (.ref q1))], [.inl (.int (0 : Int32))], y5.2, 0, 0)))
              exact k_retz HG rfl rfl (fun e1 e2 => hR _ _ e1 e2 K5)
          · show G m _ (59, [(2, .inl (.int (hv y1.2 q0 5))), (0, .inl (.ref q0)), (1, .inl (.ref q1))], [], y2.2, 0, 0)
            refine k_steps HG 1 (zB_iff.mpr (?_ : G m _ (60, [(2, .inl (.int (hv y1.2 q0 5))), (0, .inl (.ref q0)), (1, .inl (.ref q1))], [.inl (.int (0 : Int32))], y2.2, 0, 0)))
            exact k_retz HG rfl rfl (fun e1 e2 => hR _ _ e1 e2 K2)
    · show G m _ (18, [(0, .inl (.ref q0)), (1, .inl (.ref q1))], [], y1.2, 0, 0)
      refine k_steps HG 1 (zB_iff.mpr (?_ : G m _ (19, [(0, .inl (.ref q0)), (1, .inl (.ref q1))], [.inl (.int (0 : Int32))], y1.2, 0, 0)))
      exact k_retz HG rfl rfl (fun e1 e2 => hR _ _ e1 e2 K1)
def W_X3_mark : List (Nat × Nat) := [(20, 1000)]
noncomputable def F_X3_mark (h : zH) (q0 : Nat) (a1 : Int32) (a2 : Int32) : zH := (letf (F_X3_hasState a1 a2) (fun y1 => (if y1 = (0 : Int32) then h else (letf (hput h (hr h q0 1) (((a1 * (256 : Int32)) + a2) / (32 : Int32)).toNatClampNeg (.inl (.int ((hv h (hr h q0 1) (((a1 * (256 : Int32)) + a2) / (32 : Int32)).toNatClampNeg) ||| ((1 : Int32) <<< ((jrem a2 (32 : Int32)) &&& 31)))))) (fun h3 => h3)))))
theorem x_X3_mark {scr : List zV} {T : List Nat} {h : zH} {q0 : Nat} {a1 : Int32} {a2 : Int32} (hsc : cT scr) (K : hOK kty T h) (hq_q0 : T[q0]? = some 3) (hh : cH h) : xH scr W_X3_mark T T 82 [.inl (.ref q0), .inl (.int a1), .inl (.int a2)] h (F_X3_mark h q0 a1 a2) := by
  refine xH_intro (E := ze_X3_mark) hsc rfl (cTb_ok rfl) hh (fun d r h' G HG Pf hR m => ?_)
  have K := kOK_refl (W := W_X3_mark) K
  unfold F_X3_mark
  show G m _ (0, [(0, .inl (.ref q0)), (1, .inl (.int a1)), (2, .inl (.int a2))], [], h, 0, 0)
  refine k_steps HG 2 (zB_iff.mpr (?_ : G m _ (2, [(0, .inl (.ref q0)), (1, .inl (.int a1)), (2, .inl (.int a2))], [.inl (.int a2), .inl (.int a1)], h, 0, 0)))
  refine k_cSI HG (E' := ze_X3_hasState) (Or.inl rfl) hsc rfl rfl rfl rfl (fun hh => x_X3_hasState hsc hh) (fun y1 => (?_ : G m _ (5, [(0, .inl (.ref q0)), (1, .inl (.int a1)), (2, .inl (.int a2))], [.inl (.int y1)], h, 0, 0)))
  refine k_steps HG 1 (kb_eq (x := y1) (y := (0 : Int32)) ?_ ?_)
  · show G m _ (32, [(0, .inl (.ref q0)), (1, .inl (.int a1)), (2, .inl (.int a2))], [], h, 0, 0)
    exact k_retv HG rfl rfl (fun e1 e2 => hR _ e1 e2 K)
  · show G m _ (8, [(0, .inl (.ref q0)), (1, .inl (.int a1)), (2, .inl (.int a2))], [], h, 0, 0)
    refine k_steps HG 1 (zB_iff.mpr (?_ : G m _ (9, [(0, .inl (.ref q0)), (1, .inl (.int a1)), (2, .inl (.int a2))], [.inl (.ref q0)], h, 0, 0)))
    refine k_getR HG rfl K hq_q0 rfl (Nat.le_of_ble_eq_true rfl) rfl rfl (fun t2 => (?_ : G m _ (12, [(0, .inl (.ref q0)), (1, .inl (.int a1)), (2, .inl (.int a2))], [.inl (.ref (hr h q0 1))], h, 0, 0)))
    refine k_steps HG 6 (zB_iff.mpr (?_ : G m _ (21, [(0, .inl (.ref q0)), (1, .inl (.int a1)), (2, .inl (.int a2))], [.inl (.int (32 : Int32)), .inl (.int ((a1 * (256 : Int32)) + a2)), .inl (.ref (hr h q0 1))], h, 0, 0)))
    refine k_div HG rfl (?_ : G m _ (22, [(0, .inl (.ref q0)), (1, .inl (.int a1)), (2, .inl (.int a2))], [.inl (.int (((a1 * (256 : Int32)) + a2) / (32 : Int32))), .inl (.ref (hr h q0 1))], h, 0, 0))
    refine k_steps HG 1 (zB_iff.mpr (?_ : G m _ (23, [(0, .inl (.ref q0)), (1, .inl (.int a1)), (2, .inl (.int a2))], [.inl (.int (((a1 * (256 : Int32)) + a2) / (32 : Int32))), .inl (.ref (hr h q0 1)), .inl (.int (((a1 * (256 : Int32)) + a2) / (32 : Int32))), .inl (.ref (hr h q0 1))], h, 0, 0)))
    refine k_iald HG rfl K t2 rfl (fun _ => rfl) (?_ : G m _ (24, [(0, .inl (.ref q0)), (1, .inl (.int a1)), (2, .inl (.int a2))], [.inl (.int (hv h (hr h q0 1) (((a1 * (256 : Int32)) + a2) / (32 : Int32)).toNatClampNeg)), .inl (.int (((a1 * (256 : Int32)) + a2) / (32 : Int32))), .inl (.ref (hr h q0 1))], h, 0, 0))
    refine k_steps HG 3 (zB_iff.mpr (?_ : G m _ (28, [(0, .inl (.ref q0)), (1, .inl (.int a1)), (2, .inl (.int a2))], [.inl (.int (32 : Int32)), .inl (.int a2), .inl (.int (1 : Int32)), .inl (.int (hv h (hr h q0 1) (((a1 * (256 : Int32)) + a2) / (32 : Int32)).toNatClampNeg)), .inl (.int (((a1 * (256 : Int32)) + a2) / (32 : Int32))), .inl (.ref (hr h q0 1))], h, 0, 0)))
    refine k_rem HG rfl (?_ : G m _ (29, [(0, .inl (.ref q0)), (1, .inl (.int a1)), (2, .inl (.int a2))], [.inl (.int (jrem a2 (32 : Int32))), .inl (.int (1 : Int32)), .inl (.int (hv h (hr h q0 1) (((a1 * (256 : Int32)) + a2) / (32 : Int32)).toNatClampNeg)), .inl (.int (((a1 * (256 : Int32)) + a2) / (32 : Int32))), .inl (.ref (hr h q0 1))], h, 0, 0))
    refine k_steps HG 2 (zB_iff.mpr (?_ : G m _ (31, [(0, .inl (.ref q0)), (1, .inl (.int a1)), (2, .inl (.int a2))], [.inl (.int ((hv h (hr h q0 1) (((a1 * (256 : Int32)) + a2) / (32 : Int32)).toNatClampNeg) ||| ((1 : Int32) <<< ((jrem a2 (32 : Int32)) &&& 31)))), .inl (.int (((a1 * (256 : Int32)) + a2) / (32 : Int32))), .inl (.ref (hr h q0 1))], h, 0, 0)))
    refine k_iast HG rfl K t2 rfl (fun _ => rfl) rfl (fun h3 K3 => (?_ : G m _ (32, [(0, .inl (.ref q0)), (1, .inl (.int a1)), (2, .inl (.int a2))], [], h3, 0, 0)))
    exact k_retv HG rfl rfl (fun e1 e2 => hR _ e1 e2 K3)
def W_X4_all : List (Nat × Nat) := [(23, 1000)]
noncomputable def F_X4_all (h : zH) (q0 : Nat) (a1 : Int32) : Int32 × zH := (letf (F_X1_isBuyer h (hr h q0 0) a1) (fun y2 => (if y2 = (0 : Int32) then (letf (F_X4_refuse h q0 (-2 : Int32)) (fun y10 => (((-10000000 : Int32) + y10.1), y10.2))) else (letf (F_X1_standing h (hr h q0 0)) (fun y5 => (letf (F_X1_likingOfAll h (hr h q0 0) a1 y5) (fun y6 => (letf (F_X1_countIn h (hr h q0 0)) (fun y9 => ((y6 - ((hv h (hr h q0 0) 2) * y9)), h))))))))))
theorem x_X4_all {scr : List zV} {T : List Nat} {h : zH} {q0 : Nat} {a1 : Int32} (hsc : cT scr) (K : hOK kty T h) (hq_q0 : T[q0]? = some 4) (hh : cH h) : xIH scr W_X4_all T T 90 [.inl (.ref q0), .inl (.int a1)] h (F_X4_all h q0 a1) := by
  refine xIH_intro (E := ze_X4_all) hsc rfl (cTb_ok rfl) hh (fun d r h' G HG Pf hR m => ?_)
  have K := kOK_refl (W := W_X4_all) K
  unfold F_X4_all
  show G m _ (0, [(0, .inl (.ref q0)), (1, .inl (.int a1))], [], h, 0, 0)
  refine k_steps HG 1 (zB_iff.mpr (?_ : G m _ (1, [(0, .inl (.ref q0)), (1, .inl (.int a1))], [.inl (.ref q0)], h, 0, 0)))
  refine k_getR HG rfl K hq_q0 rfl (Nat.le_of_ble_eq_true rfl) rfl rfl (fun t1 => (?_ : G m _ (4, [(0, .inl (.ref q0)), (1, .inl (.int a1))], [.inl (.ref (hr h q0 0))], h, 0, 0)))
  refine k_steps HG 1 (zB_iff.mpr (?_ : G m _ (5, [(0, .inl (.ref q0)), (1, .inl (.int a1))], [.inl (.int a1), .inl (.ref (hr h q0 0))], h, 0, 0)))
  refine k_cVI HG (E' := ze_X1_isBuyer) (Or.inl ⟨rfl, rfl⟩) hsc rfl rfl rfl rfl rfl (fun hh => x_X1_isBuyer hsc K.1 t1 hh) (fun y2 => (?_ : G m _ (8, [(0, .inl (.ref q0)), (1, .inl (.int a1))], [.inl (.int y2)], h, 0, 0)))
  refine k_steps HG 1 (kb_ne (x := y2) (y := (0 : Int32)) ?_ ?_)
  · show G m _ (21, [(0, .inl (.ref q0)), (1, .inl (.int a1))], [], h, 0, 0)
    refine k_steps HG 1 (zB_iff.mpr (?_ : G m _ (22, [(0, .inl (.ref q0)), (1, .inl (.int a1))], [.inl (.ref q0)], h, 0, 0)))
    refine k_getR HG rfl K hq_q0 rfl (Nat.le_of_ble_eq_true rfl) rfl rfl (fun t3 => (?_ : G m _ (25, [(0, .inl (.ref q0)), (1, .inl (.int a1))], [.inl (.ref (hr h q0 0))], h, 0, 0)))
    refine k_steps HG 2 (zB_iff.mpr (?_ : G m _ (27, [(0, .inl (.ref q0)), (1, .inl (.int a1))], [.inl (.ref q0), .inl (.int a1), .inl (.ref (hr h q0 0))], h, 0, 0)))
    refine k_getR HG rfl K hq_q0 rfl (Nat.le_of_ble_eq_true rfl) rfl rfl (fun t4 => (?_ : G m _ (30, [(0, .inl (.ref q0)), (1, .inl (.int a1))], [.inl (.ref (hr h q0 0)), .inl (.int a1), .inl (.ref (hr h q0 0))], h, 0, 0)))
    refine k_cVI HG (E' := ze_X1_standing) (Or.inl ⟨rfl, rfl⟩) hsc rfl rfl rfl rfl rfl (fun hh => x_X1_standing hsc K.1 t4 hh) (fun y5 => (?_ : G m _ (33, [(0, .inl (.ref q0)), (1, .inl (.int a1))], [.inl (.int y5), .inl (.int a1), .inl (.ref (hr h q0 0))], h, 0, 0)))
    refine k_cVI HG (E' := ze_X1_likingOfAll) (Or.inl ⟨rfl, rfl⟩) hsc rfl rfl rfl rfl rfl (fun hh => x_X1_likingOfAll hsc K.1 t4 hh) (fun y6 => (?_ : G m _ (36, [(0, .inl (.ref q0)), (1, .inl (.int a1))], [.inl (.int y6)], h, 0, 0)))
    refine k_steps HG 1 (zB_iff.mpr (?_ : G m _ (37, [(0, .inl (.ref q0)), (1, .inl (.int a1))], [.inl (.ref q0), .inl (.int y6)], h, 0, 0)))
    refine k_getR HG rfl K hq_q0 rfl (Nat.le_of_ble_eq_true rfl) rfl rfl (fun t7 => (?_ : G m _ (40, [(0, .inl (.ref q0)), (1, .inl (.int a1))], [.inl (.ref (hr h q0 0)), .inl (.int y6)], h, 0, 0)))
    refine k_getI HG rfl K t7 rfl (Nat.le_of_ble_eq_true rfl) rfl (?_ : G m _ (43, [(0, .inl (.ref q0)), (1, .inl (.int a1))], [.inl (.int (hv h (hr h q0 0) 2)), .inl (.int y6)], h, 0, 0))
    refine k_steps HG 1 (zB_iff.mpr (?_ : G m _ (44, [(0, .inl (.ref q0)), (1, .inl (.int a1))], [.inl (.ref q0), .inl (.int (hv h (hr h q0 0) 2)), .inl (.int y6)], h, 0, 0)))
    refine k_getR HG rfl K hq_q0 rfl (Nat.le_of_ble_eq_true rfl) rfl rfl (fun t8 => (?_ : G m _ (47, [(0, .inl (.ref q0)), (1, .inl (.int a1))], [.inl (.ref (hr h q0 0)), .inl (.int (hv h (hr h q0 0) 2)), .inl (.int y6)], h, 0, 0)))
    refine k_cVI HG (E' := ze_X1_countIn) (Or.inl ⟨rfl, rfl⟩) hsc rfl rfl rfl rfl rfl (fun hh => x_X1_countIn hsc K.1 t8 hh) (fun y9 => (?_ : G m _ (50, [(0, .inl (.ref q0)), (1, .inl (.int a1))], [.inl (.int y9), .inl (.int (hv h (hr h q0 0) 2)), .inl (.int y6)], h, 0, 0)))
    refine k_steps HG 2 (zB_iff.mpr (?_ : G m _ (52, [(0, .inl (.ref q0)), (1, .inl (.int a1))], [.inl (.int (y6 - ((hv h (hr h q0 0) 2) * y9)))], h, 0, 0)))
    exact k_reti HG rfl rfl (fun e1 e2 => hR _ _ e1 e2 K)
  · show G m _ (11, [(0, .inl (.ref q0)), (1, .inl (.int a1))], [], h, 0, 0)
    refine k_steps HG 3 (zB_iff.mpr (?_ : G m _ (16, [(0, .inl (.ref q0)), (1, .inl (.int a1))], [.inl (.int (-2 : Int32)), .inl (.ref q0), .inl (.int (-10000000 : Int32))], h, 0, 0)))
    refine k_cVIH HG (E' := ze_X4_refuse) (Or.inl ⟨rfl, rfl⟩) hsc rfl rfl rfl rfl rfl K rfl (fun hh => x_X4_refuse hsc K.1 hq_q0 hh) (fun y10 K10 => (?_ : G m _ (19, [(0, .inl (.ref q0)), (1, .inl (.int a1))], [.inl (.int y10.1), .inl (.int (-10000000 : Int32))], y10.2, 0, 0)))
    refine k_steps HG 1 (zB_iff.mpr (?_ : G m _ (20, [(0, .inl (.ref q0)), (1, .inl (.int a1))], [.inl (.int ((-10000000 : Int32) + y10.1))], y10.2, 0, 0)))
    exact k_reti HG rfl rfl (fun e1 e2 => hR _ _ e1 e2 K10)
def W_X4_buyerOf : List (Nat × Nat) := [(23, 1000)]
noncomputable def F_X4_buyerOf (h : zH) (q0 : Nat) (a1 : Int32) (a2 : Int32) : Int32 × zH := (letf (F_X1_isBuyer h (hr h q0 0) a1) (fun y2 => (if y2 = (0 : Int32) then (letf (F_X4_refuse h q0 (-2 : Int32)) (fun y17 => (y17.1, y17.2))) else (if a2 = (0 : Int32) then ((hv h (hr h (hr h q0 0) 15) a1.toNatClampNeg), h) else (if a2 = (1 : Int32) then (letf (F_X1_thingsOwnedBy h (hr h q0 0) a1) (fun y8 => (y8, h))) else (if a2 = (2 : Int32) then (letf (F_X1_thingsOwnedBy h (hr h q0 0) a1) (fun y11 => (letf (F_X1_likingOfAll h (hr h q0 0) a1 y11) (fun y12 => (y12, h))))) else (if a2 = (3 : Int32) then (letf (F_X1_standing h (hr h q0 0)) (fun y15 => (letf (F_X1_likingOfAll h (hr h q0 0) a1 y15) (fun y16 => (y16, h))))) else (letf (F_X4_refuse h q0 (-2 : Int32)) (fun y4 => (y4.1, y4.2))))))))))
theorem x_X4_buyerOf {scr : List zV} {T : List Nat} {h : zH} {q0 : Nat} {a1 : Int32} {a2 : Int32} (hsc : cT scr) (K : hOK kty T h) (hq_q0 : T[q0]? = some 4) (hh : cH h) : xIH scr W_X4_buyerOf T T 97 [.inl (.ref q0), .inl (.int a1), .inl (.int a2)] h (F_X4_buyerOf h q0 a1 a2) := by
  refine xIH_intro (E := ze_X4_buyerOf) hsc rfl (cTb_ok rfl) hh (fun d r h' G HG Pf hR m => ?_)
  have K := kOK_refl (W := W_X4_buyerOf) K
  unfold F_X4_buyerOf
  show G m _ (0, [(0, .inl (.ref q0)), (1, .inl (.int a1)), (2, .inl (.int a2))], [], h, 0, 0)
  refine k_steps HG 1 (zB_iff.mpr (?_ : G m _ (1, [(0, .inl (.ref q0)), (1, .inl (.int a1)), (2, .inl (.int a2))], [.inl (.ref q0)], h, 0, 0)))
  refine k_getR HG rfl K hq_q0 rfl (Nat.le_of_ble_eq_true rfl) rfl rfl (fun t1 => (?_ : G m _ (4, [(0, .inl (.ref q0)), (1, .inl (.int a1)), (2, .inl (.int a2))], [.inl (.ref (hr h q0 0))], h, 0, 0)))
  refine k_steps HG 1 (zB_iff.mpr (?_ : G m _ (5, [(0, .inl (.ref q0)), (1, .inl (.int a1)), (2, .inl (.int a2))], [.inl (.int a1), .inl (.ref (hr h q0 0))], h, 0, 0)))
  refine k_cVI HG (E' := ze_X1_isBuyer) (Or.inl ⟨rfl, rfl⟩) hsc rfl rfl rfl rfl rfl (fun hh => x_X1_isBuyer hsc K.1 t1 hh) (fun y2 => (?_ : G m _ (8, [(0, .inl (.ref q0)), (1, .inl (.int a1)), (2, .inl (.int a2))], [.inl (.int y2)], h, 0, 0)))
  refine k_steps HG 1 (kb_ne (x := y2) (y := (0 : Int32)) ?_ ?_)
  · show G m _ (18, [(0, .inl (.ref q0)), (1, .inl (.int a1)), (2, .inl (.int a2))], [], h, 0, 0)
    refine k_steps HG 1 (zB_iff.mpr (?_ : G m _ (19, [(0, .inl (.ref q0)), (1, .inl (.int a1)), (2, .inl (.int a2))], [.inl (.int a2)], h, 0, 0)))
    refine g_tsw (k_walk HG) (d := 81) (lo := 0) (hi := 3) (offs := #[29, 39, 48, 65]) rfl (x := a2) rfl (fun hs3 => zB_iff.mpr ?_) (And.intro (fun hs3 => zB_iff.mpr ?_) (And.intro (fun hs3 => zB_iff.mpr ?_) (And.intro (fun hs3 => zB_iff.mpr ?_) (And.intro (fun hs3 => zB_iff.mpr ?_) trivial))))
    · show G m _ (100, [(0, .inl (.ref q0)), (1, .inl (.int a1)), (2, .inl (.int a2))], [], h, 0, 0)
      refine k_neg (k_swn (lo := 0) (hi := 3) hs3 (by decide)) ?_
      refine k_neg (k_swn (lo := 0) (hi := 3) hs3 (by decide)) ?_
      refine k_neg (k_swn (lo := 0) (hi := 3) hs3 (by decide)) ?_
      refine k_neg (k_swn (lo := 0) (hi := 3) hs3 (by decide)) ?_
      refine k_steps HG 2 (zB_iff.mpr (?_ : G m _ (103, [(0, .inl (.ref q0)), (1, .inl (.int a1)), (2, .inl (.int a2))], [.inl (.int (-2 : Int32)), .inl (.ref q0)], h, 0, 0)))
      refine k_cVIH HG (E' := ze_X4_refuse) (Or.inl ⟨rfl, rfl⟩) hsc rfl rfl rfl rfl rfl K rfl (fun hh => x_X4_refuse hsc K.1 hq_q0 hh) (fun y4 K4 => (?_ : G m _ (106, [(0, .inl (.ref q0)), (1, .inl (.int a1)), (2, .inl (.int a2))], [.inl (.int y4.1)], y4.2, 0, 0)))
      exact k_reti HG rfl rfl (fun e1 e2 => hR _ _ e1 e2 K4)
    · show G m _ (48, [(0, .inl (.ref q0)), (1, .inl (.int a1)), (2, .inl (.int a2))], [], h, 0, 0)
      have hs3 : a2 = (0 : Int32) := k_sw hs3 rfl
      refine k_pos hs3 ?_
      refine k_steps HG 1 (zB_iff.mpr (?_ : G m _ (49, [(0, .inl (.ref q0)), (1, .inl (.int a1)), (2, .inl (.int a2))], [.inl (.ref q0)], h, 0, 0)))
      refine k_getR HG rfl K hq_q0 rfl (Nat.le_of_ble_eq_true rfl) rfl rfl (fun t5 => (?_ : G m _ (52, [(0, .inl (.ref q0)), (1, .inl (.int a1)), (2, .inl (.int a2))], [.inl (.ref (hr h q0 0))], h, 0, 0)))
      refine k_getR HG rfl K t5 rfl (Nat.le_of_ble_eq_true rfl) rfl rfl (fun t6 => (?_ : G m _ (55, [(0, .inl (.ref q0)), (1, .inl (.int a1)), (2, .inl (.int a2))], [.inl (.ref (hr h (hr h q0 0) 15))], h, 0, 0)))
      refine k_steps HG 1 (zB_iff.mpr (?_ : G m _ (56, [(0, .inl (.ref q0)), (1, .inl (.int a1)), (2, .inl (.int a2))], [.inl (.int a1), .inl (.ref (hr h (hr h q0 0) 15))], h, 0, 0)))
      refine k_iald HG rfl K t6 rfl (fun _ => rfl) (?_ : G m _ (57, [(0, .inl (.ref q0)), (1, .inl (.int a1)), (2, .inl (.int a2))], [.inl (.int (hv h (hr h (hr h q0 0) 15) a1.toNatClampNeg))], h, 0, 0))
      exact k_reti HG rfl rfl (fun e1 e2 => hR _ _ e1 e2 K)
    · show G m _ (58, [(0, .inl (.ref q0)), (1, .inl (.int a1)), (2, .inl (.int a2))], [], h, 0, 0)
      have hs3 : a2 = (1 : Int32) := k_sw hs3 rfl
      refine k_neg (by rw [hs3]; decide) ?_
      refine k_pos hs3 ?_
      refine k_steps HG 1 (zB_iff.mpr (?_ : G m _ (59, [(0, .inl (.ref q0)), (1, .inl (.int a1)), (2, .inl (.int a2))], [.inl (.ref q0)], h, 0, 0)))
      refine k_getR HG rfl K hq_q0 rfl (Nat.le_of_ble_eq_true rfl) rfl rfl (fun t7 => (?_ : G m _ (62, [(0, .inl (.ref q0)), (1, .inl (.int a1)), (2, .inl (.int a2))], [.inl (.ref (hr h q0 0))], h, 0, 0)))
      refine k_steps HG 1 (zB_iff.mpr (?_ : G m _ (63, [(0, .inl (.ref q0)), (1, .inl (.int a1)), (2, .inl (.int a2))], [.inl (.int a1), .inl (.ref (hr h q0 0))], h, 0, 0)))
      refine k_cVI HG (E' := ze_X1_thingsOwnedBy) (Or.inl ⟨rfl, rfl⟩) hsc rfl rfl rfl rfl rfl (fun hh => x_X1_thingsOwnedBy hsc K.1 t7 hh) (fun y8 => (?_ : G m _ (66, [(0, .inl (.ref q0)), (1, .inl (.int a1)), (2, .inl (.int a2))], [.inl (.int y8)], h, 0, 0)))
      exact k_reti HG rfl rfl (fun e1 e2 => hR _ _ e1 e2 K)
    · show G m _ (67, [(0, .inl (.ref q0)), (1, .inl (.int a1)), (2, .inl (.int a2))], [], h, 0, 0)
      have hs3 : a2 = (2 : Int32) := k_sw hs3 rfl
      refine k_neg (by rw [hs3]; decide) ?_
      refine k_neg (by rw [hs3]; decide) ?_
      refine k_pos hs3 ?_
      refine k_steps HG 1 (zB_iff.mpr (?_ : G m _ (68, [(0, .inl (.ref q0)), (1, .inl (.int a1)), (2, .inl (.int a2))], [.inl (.ref q0)], h, 0, 0)))
      refine k_getR HG rfl K hq_q0 rfl (Nat.le_of_ble_eq_true rfl) rfl rfl (fun t9 => (?_ : G m _ (71, [(0, .inl (.ref q0)), (1, .inl (.int a1)), (2, .inl (.int a2))], [.inl (.ref (hr h q0 0))], h, 0, 0)))
      refine k_steps HG 2 (zB_iff.mpr (?_ : G m _ (73, [(0, .inl (.ref q0)), (1, .inl (.int a1)), (2, .inl (.int a2))], [.inl (.ref q0), .inl (.int a1), .inl (.ref (hr h q0 0))], h, 0, 0)))
      refine k_getR HG rfl K hq_q0 rfl (Nat.le_of_ble_eq_true rfl) rfl rfl (fun t10 => (?_ : G m _ (76, [(0, .inl (.ref q0)), (1, .inl (.int a1)), (2, .inl (.int a2))], [.inl (.ref (hr h q0 0)), .inl (.int a1), .inl (.ref (hr h q0 0))], h, 0, 0)))
      refine k_steps HG 1 (zB_iff.mpr (?_ : G m _ (77, [(0, .inl (.ref q0)), (1, .inl (.int a1)), (2, .inl (.int a2))], [.inl (.int a1), .inl (.ref (hr h q0 0)), .inl (.int a1), .inl (.ref (hr h q0 0))], h, 0, 0)))
      refine k_cVI HG (E' := ze_X1_thingsOwnedBy) (Or.inl ⟨rfl, rfl⟩) hsc rfl rfl rfl rfl rfl (fun hh => x_X1_thingsOwnedBy hsc K.1 t10 hh) (fun y11 => (?_ : G m _ (80, [(0, .inl (.ref q0)), (1, .inl (.int a1)), (2, .inl (.int a2))], [.inl (.int y11), .inl (.int a1), .inl (.ref (hr h q0 0))], h, 0, 0)))
      refine k_cVI HG (E' := ze_X1_likingOfAll) (Or.inl ⟨rfl, rfl⟩) hsc rfl rfl rfl rfl rfl (fun hh => x_X1_likingOfAll hsc K.1 t10 hh) (fun y12 => (?_ : G m _ (83, [(0, .inl (.ref q0)), (1, .inl (.int a1)), (2, .inl (.int a2))], [.inl (.int y12)], h, 0, 0)))
      exact k_reti HG rfl rfl (fun e1 e2 => hR _ _ e1 e2 K)
    · show G m _ (84, [(0, .inl (.ref q0)), (1, .inl (.int a1)), (2, .inl (.int a2))], [], h, 0, 0)
      have hs3 : a2 = (3 : Int32) := k_sw hs3 rfl
      refine k_neg (by rw [hs3]; decide) ?_
      refine k_neg (by rw [hs3]; decide) ?_
      refine k_neg (by rw [hs3]; decide) ?_
      refine k_pos hs3 ?_
      refine k_steps HG 1 (zB_iff.mpr (?_ : G m _ (85, [(0, .inl (.ref q0)), (1, .inl (.int a1)), (2, .inl (.int a2))], [.inl (.ref q0)], h, 0, 0)))
      refine k_getR HG rfl K hq_q0 rfl (Nat.le_of_ble_eq_true rfl) rfl rfl (fun t13 => (?_ : G m _ (88, [(0, .inl (.ref q0)), (1, .inl (.int a1)), (2, .inl (.int a2))], [.inl (.ref (hr h q0 0))], h, 0, 0)))
      refine k_steps HG 2 (zB_iff.mpr (?_ : G m _ (90, [(0, .inl (.ref q0)), (1, .inl (.int a1)), (2, .inl (.int a2))], [.inl (.ref q0), .inl (.int a1), .inl (.ref (hr h q0 0))], h, 0, 0)))
      refine k_getR HG rfl K hq_q0 rfl (Nat.le_of_ble_eq_true rfl) rfl rfl (fun t14 => (?_ : G m _ (93, [(0, .inl (.ref q0)), (1, .inl (.int a1)), (2, .inl (.int a2))], [.inl (.ref (hr h q0 0)), .inl (.int a1), .inl (.ref (hr h q0 0))], h, 0, 0)))
      refine k_cVI HG (E' := ze_X1_standing) (Or.inl ⟨rfl, rfl⟩) hsc rfl rfl rfl rfl rfl (fun hh => x_X1_standing hsc K.1 t14 hh) (fun y15 => (?_ : G m _ (96, [(0, .inl (.ref q0)), (1, .inl (.int a1)), (2, .inl (.int a2))], [.inl (.int y15), .inl (.int a1), .inl (.ref (hr h q0 0))], h, 0, 0)))
      refine k_cVI HG (E' := ze_X1_likingOfAll) (Or.inl ⟨rfl, rfl⟩) hsc rfl rfl rfl rfl rfl (fun hh => x_X1_likingOfAll hsc K.1 t14 hh) (fun y16 => (?_ : G m _ (99, [(0, .inl (.ref q0)), (1, .inl (.int a1)), (2, .inl (.int a2))], [.inl (.int y16)], h, 0, 0)))
      exact k_reti HG rfl rfl (fun e1 e2 => hR _ _ e1 e2 K)
  · show G m _ (11, [(0, .inl (.ref q0)), (1, .inl (.int a1)), (2, .inl (.int a2))], [], h, 0, 0)
    refine k_steps HG 2 (zB_iff.mpr (?_ : G m _ (14, [(0, .inl (.ref q0)), (1, .inl (.int a1)), (2, .inl (.int a2))], [.inl (.int (-2 : Int32)), .inl (.ref q0)], h, 0, 0)))
    refine k_cVIH HG (E' := ze_X4_refuse) (Or.inl ⟨rfl, rfl⟩) hsc rfl rfl rfl rfl rfl K rfl (fun hh => x_X4_refuse hsc K.1 hq_q0 hh) (fun y17 K17 => (?_ : G m _ (17, [(0, .inl (.ref q0)), (1, .inl (.int a1)), (2, .inl (.int a2))], [.inl (.int y17.1)], y17.2, 0, 0)))
    exact k_reti HG rfl rfl (fun e1 e2 => hR _ _ e1 e2 K17)
noncomputable def F_X4_drawable (h : zH) (q0 : Nat) : Int32 := (letf (F_X1_countDrawable h (hr h q0 0)) (fun y2 => y2))
theorem x_X4_drawable {scr : List zV} {T : List Nat} {h : zH} {q0 : Nat} (hsc : cT scr) (K : hOK kty T h) (hq_q0 : T[q0]? = some 4) (hh : cH h) : xI scr 102 [.inl (.ref q0)] h (F_X4_drawable h q0) := by
  refine xI_intro (E := ze_X4_drawable) hsc rfl (cTb_ok rfl) hh (fun d r h' G HG Pf hR m => ?_)
  have K := kOK_refl (W := []) K
  unfold F_X4_drawable
  show G m _ (0, [(0, .inl (.ref q0))], [], h, 0, 0)
  refine k_steps HG 1 (zB_iff.mpr (?_ : G m _ (1, [(0, .inl (.ref q0))], [.inl (.ref q0)], h, 0, 0)))
  refine k_getR HG rfl K hq_q0 rfl (Nat.le_of_ble_eq_true rfl) rfl rfl (fun t1 => (?_ : G m _ (4, [(0, .inl (.ref q0))], [.inl (.ref (hr h q0 0))], h, 0, 0)))
  refine k_cVI HG (E' := ze_X1_countDrawable) (Or.inl ⟨rfl, rfl⟩) hsc rfl rfl rfl rfl rfl (fun hh => x_X1_countDrawable hsc K.1 t1 hh) (fun y2 => (?_ : G m _ (7, [(0, .inl (.ref q0))], [.inl (.int y2)], h, 0, 0)))
  exact k_reti HG rfl rfl (fun e1 e2 => hR _ e1 e2)
noncomputable def F_X4_element (h : zH) (q0 : Nat) (a1 : Int32) (a2 : Int32) : Int64 := (letf (F_X4_isShelf a1) (fun y1 => (if y1 = (0 : Int32) then (0 : Int64) else (letf (F_X0_hasElement h (hr h (hr h q0 5) a1.toNatClampNeg) a2) (fun y4 => (if y4 = (0 : Int32) then (0 : Int64) else (hJ h (hr h (hr h (hr h q0 5) a1.toNatClampNeg) 2) a2.toNatClampNeg)))))))
theorem x_X4_element {scr : List zV} {T : List Nat} {h : zH} {q0 : Nat} {a1 : Int32} {a2 : Int32} (hsc : cT scr) (K : hOK kty T h) (hq_q0 : T[q0]? = some 4) (hh : cH h) : xJ scr 103 [.inl (.ref q0), .inl (.int a1), .inl (.int a2)] h (F_X4_element h q0 a1 a2) := by
  refine xJ_intro (E := ze_X4_element) hsc rfl (cTb_ok rfl) hh (fun d r h' G HG Pf hR m => ?_)
  have K := kOK_refl (W := []) K
  unfold F_X4_element
  show G m _ (0, [(0, .inl (.ref q0)), (1, .inl (.int a1)), (2, .inl (.int a2))], [], h, 0, 0)
  refine k_steps HG 1 (zB_iff.mpr (?_ : G m _ (1, [(0, .inl (.ref q0)), (1, .inl (.int a1)), (2, .inl (.int a2))], [.inl (.int a1)], h, 0, 0)))
  refine k_cSI HG (E' := ze_X4_isShelf) (Or.inl rfl) hsc rfl rfl rfl rfl (fun hh => x_X4_isShelf hsc hh) (fun y1 => (?_ : G m _ (4, [(0, .inl (.ref q0)), (1, .inl (.int a1)), (2, .inl (.int a2))], [.inl (.int y1)], h, 0, 0)))
  refine k_steps HG 1 (kb_eq (x := y1) (y := (0 : Int32)) ?_ ?_)
  · show G m _ (20, [(0, .inl (.ref q0)), (1, .inl (.int a1)), (2, .inl (.int a2))], [], h, 0, 0)
    refine k_steps HG 1 (zB_iff.mpr (?_ : G m _ (21, [(0, .inl (.ref q0)), (1, .inl (.int a1)), (2, .inl (.int a2))], [.inl (.long (0 : Int64))], h, 0, 0)))
    exact k_retl HG rfl rfl (fun e1 e2 => hR _ e1 e2)
  · show G m _ (7, [(0, .inl (.ref q0)), (1, .inl (.int a1)), (2, .inl (.int a2))], [], h, 0, 0)
    refine k_steps HG 1 (zB_iff.mpr (?_ : G m _ (8, [(0, .inl (.ref q0)), (1, .inl (.int a1)), (2, .inl (.int a2))], [.inl (.ref q0)], h, 0, 0)))
    refine k_getR HG rfl K hq_q0 rfl (Nat.le_of_ble_eq_true rfl) rfl rfl (fun t2 => (?_ : G m _ (11, [(0, .inl (.ref q0)), (1, .inl (.int a1)), (2, .inl (.int a2))], [.inl (.ref (hr h q0 5))], h, 0, 0)))
    refine k_steps HG 1 (zB_iff.mpr (?_ : G m _ (12, [(0, .inl (.ref q0)), (1, .inl (.int a1)), (2, .inl (.int a2))], [.inl (.int a1), .inl (.ref (hr h q0 5))], h, 0, 0)))
    refine k_aald HG rfl K t2 (fun _ => ⟨rfl, rfl⟩) (fun t3 => (?_ : G m _ (13, [(0, .inl (.ref q0)), (1, .inl (.int a1)), (2, .inl (.int a2))], [.inl (.ref (hr h (hr h q0 5) a1.toNatClampNeg))], h, 0, 0)))
    refine k_steps HG 1 (zB_iff.mpr (?_ : G m _ (14, [(0, .inl (.ref q0)), (1, .inl (.int a1)), (2, .inl (.int a2))], [.inl (.int a2), .inl (.ref (hr h (hr h q0 5) a1.toNatClampNeg))], h, 0, 0)))
    refine k_cVI HG (E' := ze_X0_hasElement) (Or.inl ⟨rfl, rfl⟩) hsc rfl rfl rfl rfl rfl (fun hh => x_X0_hasElement hsc K.1 t3 hh) (fun y4 => (?_ : G m _ (17, [(0, .inl (.ref q0)), (1, .inl (.int a1)), (2, .inl (.int a2))], [.inl (.int y4)], h, 0, 0)))
    refine k_steps HG 1 (kb_ne (x := y4) (y := (0 : Int32)) ?_ ?_)
    · show G m _ (22, [(0, .inl (.ref q0)), (1, .inl (.int a1)), (2, .inl (.int a2))], [], h, 0, 0)
      refine k_steps HG 1 (zB_iff.mpr (?_ : G m _ (23, [(0, .inl (.ref q0)), (1, .inl (.int a1)), (2, .inl (.int a2))], [.inl (.ref q0)], h, 0, 0)))
      refine k_getR HG rfl K hq_q0 rfl (Nat.le_of_ble_eq_true rfl) rfl rfl (fun t5 => (?_ : G m _ (26, [(0, .inl (.ref q0)), (1, .inl (.int a1)), (2, .inl (.int a2))], [.inl (.ref (hr h q0 5))], h, 0, 0)))
      refine k_steps HG 1 (zB_iff.mpr (?_ : G m _ (27, [(0, .inl (.ref q0)), (1, .inl (.int a1)), (2, .inl (.int a2))], [.inl (.int a1), .inl (.ref (hr h q0 5))], h, 0, 0)))
      refine k_aald HG rfl K t5 (fun _ => ⟨rfl, rfl⟩) (fun t6 => (?_ : G m _ (28, [(0, .inl (.ref q0)), (1, .inl (.int a1)), (2, .inl (.int a2))], [.inl (.ref (hr h (hr h q0 5) a1.toNatClampNeg))], h, 0, 0)))
      refine k_getR HG rfl K t6 rfl (Nat.le_of_ble_eq_true rfl) rfl rfl (fun t7 => (?_ : G m _ (31, [(0, .inl (.ref q0)), (1, .inl (.int a1)), (2, .inl (.int a2))], [.inl (.ref (hr h (hr h (hr h q0 5) a1.toNatClampNeg) 2))], h, 0, 0)))
      refine k_steps HG 1 (zB_iff.mpr (?_ : G m _ (32, [(0, .inl (.ref q0)), (1, .inl (.int a1)), (2, .inl (.int a2))], [.inl (.int a2), .inl (.ref (hr h (hr h (hr h q0 5) a1.toNatClampNeg) 2))], h, 0, 0)))
      refine k_lald HG rfl K t7 rfl (fun _ => rfl) (?_ : G m _ (33, [(0, .inl (.ref q0)), (1, .inl (.int a1)), (2, .inl (.int a2))], [.inl (.long (hJ h (hr h (hr h (hr h q0 5) a1.toNatClampNeg) 2) a2.toNatClampNeg))], h, 0, 0))
      exact k_retl HG rfl rfl (fun e1 e2 => hR _ e1 e2)
    · show G m _ (20, [(0, .inl (.ref q0)), (1, .inl (.int a1)), (2, .inl (.int a2))], [], h, 0, 0)
      refine k_steps HG 1 (zB_iff.mpr (?_ : G m _ (21, [(0, .inl (.ref q0)), (1, .inl (.int a1)), (2, .inl (.int a2))], [.inl (.long (0 : Int64))], h, 0, 0)))
      exact k_retl HG rfl rfl (fun e1 e2 => hR _ e1 e2)
noncomputable def B_X4_envy_35 (h : zH) (c0 : Nat) (c2 : Int32) (c3 : Int32) (s : (Int32 × Int32)) : (Int32 × Int32) ⊕ ((Int32 × Int32) ⊕ (Int32)) := (if s.2 < (hv h (hr h c0 0) 14) then (letf (F_X1_thingsOwnedBy h (hr h c0 0) s.2) (fun y2004 => (letf (F_X1_likingOfAll h (hr h c0 0) c2 y2004) (fun y2005 => (if c3 < y2005 then (Sum.inl ((s.1 + (1 : Int32)), (s.2 + (1 : Int32)))) else (Sum.inl (s.1, (s.2 + (1 : Int32))))))))) else (Sum.inr (Sum.inl (s.1, (c2 + (1 : Int32))))))
noncomputable def B_X4_envy_4 (h : zH) (c0 : Nat) (s : (Int32 × Int32)) : (Int32 × Int32) ⊕ (Int32) := (if s.2 < (hv h (hr h c0 0) 14) then (letf (F_X1_thingsOwnedBy h (hr h c0 0) s.2) (fun y1004 => (letf (F_X1_likingOfAll h (hr h c0 0) s.2 y1004) (fun y1005 => (fx (B_X4_envy_35 h c0 s.2 y1005) (Sum.inr 0) (s.1, (0 : Int32))))))) else (Sum.inr s.1))
noncomputable def F_X4_envy (h : zH) (q0 : Nat) : Int32 := (fx (B_X4_envy_4 h q0) 0 ((0 : Int32), (0 : Int32)))
theorem x_X4_envy {scr : List zV} {T : List Nat} {h : zH} {q0 : Nat} (hsc : cT scr) (K : hOK kty T h) (hq_q0 : T[q0]? = some 4) (hh : cH h) : xI scr 104 [.inl (.ref q0)] h (F_X4_envy h q0) := by
  refine xI_intro (E := ze_X4_envy) hsc rfl (cTb_ok rfl) hh (fun d r h' G HG Pf hR m => ?_)
  have K := kOK_refl (W := []) K
  unfold F_X4_envy
  show G m _ (0, [(0, .inl (.ref q0))], [], h, 0, 0)
  refine k_steps HG 4 (zB_iff.mpr (?_ : G m _ (4, [(2, .inl (.int (0 : Int32))), (1, .inl (.int (0 : Int32))), (0, .inl (.ref q0))], [], h, 0, 0)))
  have lp1 : ∀ m1, m1 ≤ m → ∀ (d1_3 : Int32) (d1_4 : Int32) (v1_1 : Int32) (v1_2 : Int32), G m1 (Pf (fx (B_X4_envy_4 h q0) 0 (v1_1, v1_2))) (4, [(0, .inl (.ref q0)), (1, .inl (.int v1_1)), (2, .inl (.int v1_2)), (3, .inl (.int d1_3)), (4, .inl (.int d1_4))], [], h, 0, 0) := by
    intro m1
    induction m1 with
    | zero =>
      intros
      exact k_zero HG
    | succ m1 ih1 =>
      intro le1 d1_3 d1_4 v1_1 v1_2
      have le1 := Nat.le_of_succ_le le1
      have ih1 := ih1 le1
      refine k_fx ?_
      rw [B_X4_envy_4]
      refine k_first HG 1 (zB_iff.mpr (?_ : G m1 _ (6, [(0, .inl (.ref q0)), (1, .inl (.int v1_1)), (2, .inl (.int v1_2)), (3, .inl (.int d1_3)), (4, .inl (.int d1_4))], [.inl (.ref q0), .inl (.int v1_2)], h, 0, 0)))
      refine k_getR HG rfl K hq_q0 rfl (Nat.le_of_ble_eq_true rfl) rfl rfl (fun t2 => (?_ : G m1 _ (9, [(0, .inl (.ref q0)), (1, .inl (.int v1_1)), (2, .inl (.int v1_2)), (3, .inl (.int d1_3)), (4, .inl (.int d1_4))], [.inl (.ref (hr h q0 0)), .inl (.int v1_2)], h, 0, 0)))
      refine k_getI HG rfl K t2 rfl (Nat.le_of_ble_eq_true rfl) rfl (?_ : G m1 _ (12, [(0, .inl (.ref q0)), (1, .inl (.int v1_1)), (2, .inl (.int v1_2)), (3, .inl (.int d1_3)), (4, .inl (.int d1_4))], [.inl (.int (hv h (hr h q0 0) 14)), .inl (.int v1_2)], h, 0, 0))
      refine k_steps HG 1 (kb_ge (x := v1_2) (y := (hv h (hr h q0 0) 14)) ?_ ?_)
      · show G m1 _ (83, [(0, .inl (.ref q0)), (1, .inl (.int v1_1)), (2, .inl (.int v1_2)), (3, .inl (.int d1_3)), (4, .inl (.int d1_4))], [], h, 0, 0)
        refine k_steps HG 1 (zB_iff.mpr (?_ : G m1 _ (84, [(0, .inl (.ref q0)), (1, .inl (.int v1_1)), (2, .inl (.int v1_2)), (3, .inl (.int d1_3)), (4, .inl (.int d1_4))], [.inl (.int v1_1)], h, 0, 0)))
        exact k_reti HG rfl rfl (fun e1 e2 => hR _ e1 e2)
      · show G m1 _ (15, [(0, .inl (.ref q0)), (1, .inl (.int v1_1)), (2, .inl (.int v1_2)), (3, .inl (.int d1_3)), (4, .inl (.int d1_4))], [], h, 0, 0)
        refine k_steps HG 1 (zB_iff.mpr (?_ : G m1 _ (16, [(0, .inl (.ref q0)), (1, .inl (.int v1_1)), (2, .inl (.int v1_2)), (3, .inl (.int d1_3)), (4, .inl (.int d1_4))], [.inl (.ref q0)], h, 0, 0)))
        refine k_getR HG rfl K hq_q0 rfl (Nat.le_of_ble_eq_true rfl) rfl rfl (fun t3 => (?_ : G m1 _ (19, [(0, .inl (.ref q0)), (1, .inl (.int v1_1)), (2, .inl (.int v1_2)), (3, .inl (.int d1_3)), (4, .inl (.int d1_4))], [.inl (.ref (hr h q0 0))], h, 0, 0)))
        refine k_steps HG 2 (zB_iff.mpr (?_ : G m1 _ (21, [(0, .inl (.ref q0)), (1, .inl (.int v1_1)), (2, .inl (.int v1_2)), (3, .inl (.int d1_3)), (4, .inl (.int d1_4))], [.inl (.ref q0), .inl (.int v1_2), .inl (.ref (hr h q0 0))], h, 0, 0)))
        refine k_getR HG rfl K hq_q0 rfl (Nat.le_of_ble_eq_true rfl) rfl rfl (fun t4 => (?_ : G m1 _ (24, [(0, .inl (.ref q0)), (1, .inl (.int v1_1)), (2, .inl (.int v1_2)), (3, .inl (.int d1_3)), (4, .inl (.int d1_4))], [.inl (.ref (hr h q0 0)), .inl (.int v1_2), .inl (.ref (hr h q0 0))], h, 0, 0)))
        refine k_steps HG 1 (zB_iff.mpr (?_ : G m1 _ (25, [(0, .inl (.ref q0)), (1, .inl (.int v1_1)), (2, .inl (.int v1_2)), (3, .inl (.int d1_3)), (4, .inl (.int d1_4))], [.inl (.int v1_2), .inl (.ref (hr h q0 0)), .inl (.int v1_2), .inl (.ref (hr h q0 0))], h, 0, 0)))
        refine k_cVI HG (E' := ze_X1_thingsOwnedBy) (Or.inl ⟨rfl, rfl⟩) hsc rfl rfl rfl rfl rfl (fun hh => x_X1_thingsOwnedBy hsc K.1 t4 hh) (fun y5 => (?_ : G m1 _ (28, [(0, .inl (.ref q0)), (1, .inl (.int v1_1)), (2, .inl (.int v1_2)), (3, .inl (.int d1_3)), (4, .inl (.int d1_4))], [.inl (.int y5), .inl (.int v1_2), .inl (.ref (hr h q0 0))], h, 0, 0)))
        refine k_cVI HG (E' := ze_X1_likingOfAll) (Or.inl ⟨rfl, rfl⟩) hsc rfl rfl rfl rfl rfl (fun hh => x_X1_likingOfAll hsc K.1 t4 hh) (fun y6 => (?_ : G m1 _ (31, [(0, .inl (.ref q0)), (1, .inl (.int v1_1)), (2, .inl (.int v1_2)), (3, .inl (.int d1_3)), (4, .inl (.int d1_4))], [.inl (.int y6)], h, 0, 0)))
        refine k_steps HG 3 (zB_iff.mpr (?_ : G m1 _ (35, [(4, .inl (.int (0 : Int32))), (3, .inl (.int y6)), (0, .inl (.ref q0)), (1, .inl (.int v1_1)), (2, .inl (.int v1_2))], [], h, 0, 0)))
        have lp7 : ∀ m7, m7 ≤ m1 → ∀ (v7_1 : Int32) (v7_4 : Int32), G m7 ((fxP Pf (B_X4_envy_4 h q0) 0) (fx (B_X4_envy_35 h q0 v1_2 y6) (Sum.inr 0) (v7_1, v7_4))) (35, [(0, .inl (.ref q0)), (1, .inl (.int v7_1)), (2, .inl (.int v1_2)), (3, .inl (.int y6)), (4, .inl (.int v7_4))], [], h, 0, 0) := by
          intro m7
          induction m7 with
          | zero =>
            intros
            exact k_zero HG
          | succ m7 ih7 =>
            intro le7 v7_1 v7_4
            have le7 := Nat.le_of_succ_le le7
            have ih7 := ih7 le7
            refine k_fx ?_
            rw [B_X4_envy_35]
            refine k_first HG 1 (zB_iff.mpr (?_ : G m7 _ (38, [(0, .inl (.ref q0)), (1, .inl (.int v7_1)), (2, .inl (.int v1_2)), (3, .inl (.int y6)), (4, .inl (.int v7_4))], [.inl (.ref q0), .inl (.int v7_4)], h, 0, 0)))
            refine k_getR HG rfl K hq_q0 rfl (Nat.le_of_ble_eq_true rfl) rfl rfl (fun t8 => (?_ : G m7 _ (41, [(0, .inl (.ref q0)), (1, .inl (.int v7_1)), (2, .inl (.int v1_2)), (3, .inl (.int y6)), (4, .inl (.int v7_4))], [.inl (.ref (hr h q0 0)), .inl (.int v7_4)], h, 0, 0)))
            refine k_getI HG rfl K t8 rfl (Nat.le_of_ble_eq_true rfl) rfl (?_ : G m7 _ (44, [(0, .inl (.ref q0)), (1, .inl (.int v7_1)), (2, .inl (.int v1_2)), (3, .inl (.int y6)), (4, .inl (.int v7_4))], [.inl (.int (hv h (hr h q0 0) 14)), .inl (.int v7_4)], h, 0, 0))
            refine k_steps HG 1 (kb_ge (x := v7_4) (y := (hv h (hr h q0 0) 14)) ?_ ?_)
            · show G m7 _ (77, [(0, .inl (.ref q0)), (1, .inl (.int v7_1)), (2, .inl (.int v1_2)), (3, .inl (.int y6)), (4, .inl (.int v7_4))], [], h, 0, 0)
              refine k_steps HG 2 (zB_iff.mpr (?_ : G m7 _ (4, [(2, .inl (.int (v1_2 + (1 : Int32)))), (0, .inl (.ref q0)), (1, .inl (.int v7_1)), (3, .inl (.int y6)), (4, .inl (.int v7_4))], [], h, 0, 0)))
              refine k_ext HG (L' := [(0, .inl (.ref q0)), (1, .inl (.int v7_1)), (2, .inl (.int (v1_2 + (1 : Int32)))), (3, .inl (.int y6)), (4, .inl (.int v7_4))]) rfl rfl ⟨rfl, rfl, rfl, rfl, rfl, trivial⟩ ?_
              exact k_mono HG le7 (ih1 _ _ _ _)
            · show G m7 _ (47, [(0, .inl (.ref q0)), (1, .inl (.int v7_1)), (2, .inl (.int v1_2)), (3, .inl (.int y6)), (4, .inl (.int v7_4))], [], h, 0, 0)
              refine k_steps HG 1 (zB_iff.mpr (?_ : G m7 _ (48, [(0, .inl (.ref q0)), (1, .inl (.int v7_1)), (2, .inl (.int v1_2)), (3, .inl (.int y6)), (4, .inl (.int v7_4))], [.inl (.ref q0)], h, 0, 0)))
              refine k_getR HG rfl K hq_q0 rfl (Nat.le_of_ble_eq_true rfl) rfl rfl (fun t9 => (?_ : G m7 _ (51, [(0, .inl (.ref q0)), (1, .inl (.int v7_1)), (2, .inl (.int v1_2)), (3, .inl (.int y6)), (4, .inl (.int v7_4))], [.inl (.ref (hr h q0 0))], h, 0, 0)))
              refine k_steps HG 2 (zB_iff.mpr (?_ : G m7 _ (53, [(0, .inl (.ref q0)), (1, .inl (.int v7_1)), (2, .inl (.int v1_2)), (3, .inl (.int y6)), (4, .inl (.int v7_4))], [.inl (.ref q0), .inl (.int v1_2), .inl (.ref (hr h q0 0))], h, 0, 0)))
              refine k_getR HG rfl K hq_q0 rfl (Nat.le_of_ble_eq_true rfl) rfl rfl (fun t10 => (?_ : G m7 _ (56, [(0, .inl (.ref q0)), (1, .inl (.int v7_1)), (2, .inl (.int v1_2)), (3, .inl (.int y6)), (4, .inl (.int v7_4))], [.inl (.ref (hr h q0 0)), .inl (.int v1_2), .inl (.ref (hr h q0 0))], h, 0, 0)))
              refine k_steps HG 1 (zB_iff.mpr (?_ : G m7 _ (58, [(0, .inl (.ref q0)), (1, .inl (.int v7_1)), (2, .inl (.int v1_2)), (3, .inl (.int y6)), (4, .inl (.int v7_4))], [.inl (.int v7_4), .inl (.ref (hr h q0 0)), .inl (.int v1_2), .inl (.ref (hr h q0 0))], h, 0, 0)))
              refine k_cVI HG (E' := ze_X1_thingsOwnedBy) (Or.inl ⟨rfl, rfl⟩) hsc rfl rfl rfl rfl rfl (fun hh => x_X1_thingsOwnedBy hsc K.1 t10 hh) (fun y11 => (?_ : G m7 _ (61, [(0, .inl (.ref q0)), (1, .inl (.int v7_1)), (2, .inl (.int v1_2)), (3, .inl (.int y6)), (4, .inl (.int v7_4))], [.inl (.int y11), .inl (.int v1_2), .inl (.ref (hr h q0 0))], h, 0, 0)))
              refine k_cVI HG (E' := ze_X1_likingOfAll) (Or.inl ⟨rfl, rfl⟩) hsc rfl rfl rfl rfl rfl (fun hh => x_X1_likingOfAll hsc K.1 t10 hh) (fun y12 => (?_ : G m7 _ (64, [(0, .inl (.ref q0)), (1, .inl (.int v7_1)), (2, .inl (.int v1_2)), (3, .inl (.int y6)), (4, .inl (.int v7_4))], [.inl (.int y12)], h, 0, 0)))
              refine k_steps HG 2 (kb_le (x := y12) (y := y6) ?_ ?_)
              · show G m7 _ (71, [(0, .inl (.ref q0)), (1, .inl (.int v7_1)), (2, .inl (.int v1_2)), (3, .inl (.int y6)), (4, .inl (.int v7_4))], [], h, 0, 0)
                refine k_steps HG 2 (zB_iff.mpr (?_ : G m7 _ (35, [(4, .inl (.int (v7_4 + (1 : Int32)))), (0, .inl (.ref q0)), (1, .inl (.int v7_1)), (2, .inl (.int v1_2)), (3, .inl (.int y6))], [], h, 0, 0)))
                refine k_ext HG (L' := [(0, .inl (.ref q0)), (1, .inl (.int v7_1)), (2, .inl (.int v1_2)), (3, .inl (.int y6)), (4, .inl (.int (v7_4 + (1 : Int32))))]) rfl rfl ⟨rfl, rfl, rfl, rfl, rfl, trivial⟩ ?_
                exact ih7 _ _
              · show G m7 _ (68, [(0, .inl (.ref q0)), (1, .inl (.int v7_1)), (2, .inl (.int v1_2)), (3, .inl (.int y6)), (4, .inl (.int v7_4))], [], h, 0, 0)
                refine k_steps HG 3 (zB_iff.mpr (?_ : G m7 _ (35, [(4, .inl (.int (v7_4 + (1 : Int32)))), (1, .inl (.int (v7_1 + (1 : Int32)))), (0, .inl (.ref q0)), (2, .inl (.int v1_2)), (3, .inl (.int y6))], [], h, 0, 0)))
                refine k_ext HG (L' := [(0, .inl (.ref q0)), (1, .inl (.int (v7_1 + (1 : Int32)))), (2, .inl (.int v1_2)), (3, .inl (.int y6)), (4, .inl (.int (v7_4 + (1 : Int32))))]) rfl rfl ⟨rfl, rfl, rfl, rfl, rfl, trivial⟩ ?_
                exact ih7 _ _
        refine k_ext HG (L' := [(0, .inl (.ref q0)), (1, .inl (.int v1_1)), (2, .inl (.int v1_2)), (3, .inl (.int y6)), (4, .inl (.int (0 : Int32)))]) rfl rfl ⟨rfl, rfl, rfl, rfl, rfl, trivial⟩ ?_
        exact lp7 m1 (Nat.le_refl _) _ _
  refine k_ext HG (L' := [(0, .inl (.ref q0)), (1, .inl (.int (0 : Int32))), (2, .inl (.int (0 : Int32))), (3, .inl (.int (0 : Int32))), (4, .inl (.int (0 : Int32)))]) rfl rfl ⟨rfl, rfl, rfl, trivial⟩ ?_
  exact lp1 m (Nat.le_refl _) _ _ _ _
def W_X4_fete : List (Nat × Nat) := [(1, 4), (1, 7), (14, 1000), (15, 1000), (23, 1000)]
noncomputable def F_X4_fete (h : zH) (q0 : Nat) (a1 : Int32) : Int32 × zH := (letf (F_X4_isWithin a1 (0 : Int32) (1000 : Int32)) (fun y1 => (if y1 = (0 : Int32) then (letf (F_X4_refuse h q0 (-2 : Int32)) (fun y2 => (y2.1, y2.2))) else (letf (F_X1_beginFete h (hr h q0 0) a1) (fun y4 => (y4.1, y4.2))))))
theorem x_X4_fete {scr : List zV} {T : List Nat} {h : zH} {q0 : Nat} {a1 : Int32} (hsc : cT scr) (K : hOK kty T h) (hq_q0 : T[q0]? = some 4) (hh : cH h) : xIH scr W_X4_fete T T 106 [.inl (.ref q0), .inl (.int a1)] h (F_X4_fete h q0 a1) := by
  refine xIH_intro (E := ze_X4_fete) hsc rfl (cTb_ok rfl) hh (fun d r h' G HG Pf hR m => ?_)
  have K := kOK_refl (W := W_X4_fete) K
  unfold F_X4_fete
  show G m _ (0, [(0, .inl (.ref q0)), (1, .inl (.int a1))], [], h, 0, 0)
  refine k_steps HG 3 (zB_iff.mpr (?_ : G m _ (5, [(0, .inl (.ref q0)), (1, .inl (.int a1))], [.inl (.int (1000 : Int32)), .inl (.int (0 : Int32)), .inl (.int a1)], h, 0, 0)))
  refine k_cSI HG (E' := ze_X4_isWithin) (Or.inl rfl) hsc rfl rfl rfl rfl (fun hh => x_X4_isWithin hsc hh) (fun y1 => (?_ : G m _ (8, [(0, .inl (.ref q0)), (1, .inl (.int a1))], [.inl (.int y1)], h, 0, 0)))
  refine k_steps HG 1 (kb_eq (x := y1) (y := (0 : Int32)) ?_ ?_)
  · show G m _ (22, [(0, .inl (.ref q0)), (1, .inl (.int a1))], [], h, 0, 0)
    refine k_steps HG 2 (zB_iff.mpr (?_ : G m _ (25, [(0, .inl (.ref q0)), (1, .inl (.int a1))], [.inl (.int (-2 : Int32)), .inl (.ref q0)], h, 0, 0)))
    refine k_cVIH HG (E' := ze_X4_refuse) (Or.inl ⟨rfl, rfl⟩) hsc rfl rfl rfl rfl rfl K rfl (fun hh => x_X4_refuse hsc K.1 hq_q0 hh) (fun y2 K2 => (?_ : G m _ (28, [(0, .inl (.ref q0)), (1, .inl (.int a1))], [.inl (.int y2.1)], y2.2, 0, 0)))
    exact k_reti HG rfl rfl (fun e1 e2 => hR _ _ e1 e2 K2)
  · show G m _ (11, [(0, .inl (.ref q0)), (1, .inl (.int a1))], [], h, 0, 0)
    refine k_steps HG 1 (zB_iff.mpr (?_ : G m _ (12, [(0, .inl (.ref q0)), (1, .inl (.int a1))], [.inl (.ref q0)], h, 0, 0)))
    refine k_getR HG rfl K hq_q0 rfl (Nat.le_of_ble_eq_true rfl) rfl rfl (fun t3 => (?_ : G m _ (15, [(0, .inl (.ref q0)), (1, .inl (.int a1))], [.inl (.ref (hr h q0 0))], h, 0, 0)))
    refine k_steps HG 1 (zB_iff.mpr (?_ : G m _ (16, [(0, .inl (.ref q0)), (1, .inl (.int a1))], [.inl (.int a1), .inl (.ref (hr h q0 0))], h, 0, 0)))
    refine k_cVIH HG (E' := ze_X1_beginFete) (Or.inl ⟨rfl, rfl⟩) hsc rfl rfl rfl rfl rfl K rfl (fun hh => x_X1_beginFete hsc K.1 t3 hh) (fun y4 K4 => (?_ : G m _ (19, [(0, .inl (.ref q0)), (1, .inl (.int a1))], [.inl (.int y4.1)], y4.2, 0, 0)))
    refine k_steps HG 1 (zB_iff.mpr (?_ : G m _ (28, [(0, .inl (.ref q0)), (1, .inl (.int a1))], [.inl (.int y4.1)], y4.2, 0, 0)))
    exact k_reti HG rfl rfl (fun e1 e2 => hR _ _ e1 e2 K4)
noncomputable def F_X4_lackOfBook (h : zH) (q0 : Nat) (a1 : Int32) (a2 : Int32) : Int32 := (letf (F_X4_isShelf a1) (fun y1 => (if y1 = (0 : Int32) then (-2 : Int32) else (letf (F_X4_isWithin a2 (0 : Int32) (40 : Int32)) (fun y2 => (if y2 = (0 : Int32) then (-2 : Int32) else (letf (F_X0_lackOfRow h (hr h (hr h q0 5) a1.toNatClampNeg)) (fun y5 => (if y5 = (0 : Int32) then (if (hv h (hr h (hr h q0 5) a1.toNatClampNeg) 1) < a2 then (-2 : Int32) else (0 : Int32)) else y5)))))))))
theorem x_X4_lackOfBook {scr : List zV} {T : List Nat} {h : zH} {q0 : Nat} {a1 : Int32} {a2 : Int32} (hsc : cT scr) (K : hOK kty T h) (hq_q0 : T[q0]? = some 4) (hh : cH h) : xI scr 117 [.inl (.ref q0), .inl (.int a1), .inl (.int a2)] h (F_X4_lackOfBook h q0 a1 a2) := by
  refine xI_intro (E := ze_X4_lackOfBook) hsc rfl (cTb_ok rfl) hh (fun d r h' G HG Pf hR m => ?_)
  have K := kOK_refl (W := []) K
  unfold F_X4_lackOfBook
  show G m _ (0, [(0, .inl (.ref q0)), (1, .inl (.int a1)), (2, .inl (.int a2))], [], h, 0, 0)
  refine k_steps HG 1 (zB_iff.mpr (?_ : G m _ (1, [(0, .inl (.ref q0)), (1, .inl (.int a1)), (2, .inl (.int a2))], [.inl (.int a1)], h, 0, 0)))
  refine k_cSI HG (E' := ze_X4_isShelf) (Or.inl rfl) hsc rfl rfl rfl rfl (fun hh => x_X4_isShelf hsc hh) (fun y1 => (?_ : G m _ (4, [(0, .inl (.ref q0)), (1, .inl (.int a1)), (2, .inl (.int a2))], [.inl (.int y1)], h, 0, 0)))
  refine k_steps HG 1 (kb_eq (x := y1) (y := (0 : Int32)) ?_ ?_)
  · show G m _ (17, [(0, .inl (.ref q0)), (1, .inl (.int a1)), (2, .inl (.int a2))], [], h, 0, 0)
    refine k_steps HG 1 (zB_iff.mpr (?_ : G m _ (19, [(0, .inl (.ref q0)), (1, .inl (.int a1)), (2, .inl (.int a2))], [.inl (.int (-2 : Int32))], h, 0, 0)))
    exact k_reti HG rfl rfl (fun e1 e2 => hR _ e1 e2)
  · show G m _ (7, [(0, .inl (.ref q0)), (1, .inl (.int a1)), (2, .inl (.int a2))], [], h, 0, 0)
    refine k_steps HG 3 (zB_iff.mpr (?_ : G m _ (11, [(0, .inl (.ref q0)), (1, .inl (.int a1)), (2, .inl (.int a2))], [.inl (.int (40 : Int32)), .inl (.int (0 : Int32)), .inl (.int a2)], h, 0, 0)))
    refine k_cSI HG (E' := ze_X4_isWithin) (Or.inl rfl) hsc rfl rfl rfl rfl (fun hh => x_X4_isWithin hsc hh) (fun y2 => (?_ : G m _ (14, [(0, .inl (.ref q0)), (1, .inl (.int a1)), (2, .inl (.int a2))], [.inl (.int y2)], h, 0, 0)))
    refine k_steps HG 1 (kb_ne (x := y2) (y := (0 : Int32)) ?_ ?_)
    · show G m _ (20, [(0, .inl (.ref q0)), (1, .inl (.int a1)), (2, .inl (.int a2))], [], h, 0, 0)
      refine k_steps HG 1 (zB_iff.mpr (?_ : G m _ (21, [(0, .inl (.ref q0)), (1, .inl (.int a1)), (2, .inl (.int a2))], [.inl (.ref q0)], h, 0, 0)))
      refine k_getR HG rfl K hq_q0 rfl (Nat.le_of_ble_eq_true rfl) rfl rfl (fun t3 => (?_ : G m _ (24, [(0, .inl (.ref q0)), (1, .inl (.int a1)), (2, .inl (.int a2))], [.inl (.ref (hr h q0 5))], h, 0, 0)))
      refine k_steps HG 1 (zB_iff.mpr (?_ : G m _ (25, [(0, .inl (.ref q0)), (1, .inl (.int a1)), (2, .inl (.int a2))], [.inl (.int a1), .inl (.ref (hr h q0 5))], h, 0, 0)))
      refine k_aald HG rfl K t3 (fun _ => ⟨rfl, rfl⟩) (fun t4 => (?_ : G m _ (26, [(0, .inl (.ref q0)), (1, .inl (.int a1)), (2, .inl (.int a2))], [.inl (.ref (hr h (hr h q0 5) a1.toNatClampNeg))], h, 0, 0)))
      refine k_cVI HG (E' := ze_X0_lackOfRow) (Or.inl ⟨rfl, rfl⟩) hsc rfl rfl rfl rfl rfl (fun hh => x_X0_lackOfRow hsc K.1 t4 hh) (fun y5 => (?_ : G m _ (29, [(0, .inl (.ref q0)), (1, .inl (.int a1)), (2, .inl (.int a2))], [.inl (.int y5)], h, 0, 0)))
      refine k_steps HG 3 (kb_eq (x := y5) (y := (0 : Int32)) ?_ ?_)
      · show G m _ (36, [(3, .inl (.int y5)), (0, .inl (.ref q0)), (1, .inl (.int a1)), (2, .inl (.int a2))], [], h, 0, 0)
        refine k_steps HG 2 (zB_iff.mpr (?_ : G m _ (38, [(3, .inl (.int y5)), (0, .inl (.ref q0)), (1, .inl (.int a1)), (2, .inl (.int a2))], [.inl (.ref q0), .inl (.int a2)], h, 0, 0)))
        refine k_getR HG rfl K hq_q0 rfl (Nat.le_of_ble_eq_true rfl) rfl rfl (fun t6 => (?_ : G m _ (41, [(3, .inl (.int y5)), (0, .inl (.ref q0)), (1, .inl (.int a1)), (2, .inl (.int a2))], [.inl (.ref (hr h q0 5)), .inl (.int a2)], h, 0, 0)))
        refine k_steps HG 1 (zB_iff.mpr (?_ : G m _ (42, [(3, .inl (.int y5)), (0, .inl (.ref q0)), (1, .inl (.int a1)), (2, .inl (.int a2))], [.inl (.int a1), .inl (.ref (hr h q0 5)), .inl (.int a2)], h, 0, 0)))
        refine k_aald HG rfl K t6 (fun _ => ⟨rfl, rfl⟩) (fun t7 => (?_ : G m _ (43, [(3, .inl (.int y5)), (0, .inl (.ref q0)), (1, .inl (.int a1)), (2, .inl (.int a2))], [.inl (.ref (hr h (hr h q0 5) a1.toNatClampNeg)), .inl (.int a2)], h, 0, 0)))
        refine k_getI HG rfl K t7 rfl (Nat.le_of_ble_eq_true rfl) rfl (?_ : G m _ (46, [(3, .inl (.int y5)), (0, .inl (.ref q0)), (1, .inl (.int a1)), (2, .inl (.int a2))], [.inl (.int (hv h (hr h (hr h q0 5) a1.toNatClampNeg) 1)), .inl (.int a2)], h, 0, 0))
        refine k_steps HG 1 (kb_le (x := a2) (y := (hv h (hr h (hr h q0 5) a1.toNatClampNeg) 1)) ?_ ?_)
        · show G m _ (54, [(3, .inl (.int y5)), (0, .inl (.ref q0)), (1, .inl (.int a1)), (2, .inl (.int a2))], [], h, 0, 0)
          refine k_steps HG 1 (zB_iff.mpr (?_ : G m _ (55, [(3, .inl (.int y5)), (0, .inl (.ref q0)), (1, .inl (.int a1)), (2, .inl (.int a2))], [.inl (.int (0 : Int32))], h, 0, 0)))
          exact k_reti HG rfl rfl (fun e1 e2 => hR _ e1 e2)
        · show G m _ (49, [(3, .inl (.int y5)), (0, .inl (.ref q0)), (1, .inl (.int a1)), (2, .inl (.int a2))], [], h, 0, 0)
          refine k_steps HG 2 (zB_iff.mpr (?_ : G m _ (55, [(3, .inl (.int y5)), (0, .inl (.ref q0)), (1, .inl (.int a1)), (2, .inl (.int a2))], [.inl (.int (-2 : Int32))], h, 0, 0)))
          exact k_reti HG rfl rfl (fun e1 e2 => hR _ e1 e2)
      · show G m _ (34, [(3, .inl (.int y5)), (0, .inl (.ref q0)), (1, .inl (.int a1)), (2, .inl (.int a2))], [], h, 0, 0)
        refine k_steps HG 1 (zB_iff.mpr (?_ : G m _ (35, [(3, .inl (.int y5)), (0, .inl (.ref q0)), (1, .inl (.int a1)), (2, .inl (.int a2))], [.inl (.int y5)], h, 0, 0)))
        exact k_reti HG rfl rfl (fun e1 e2 => hR _ e1 e2)
    · show G m _ (17, [(0, .inl (.ref q0)), (1, .inl (.int a1)), (2, .inl (.int a2))], [], h, 0, 0)
      refine k_steps HG 1 (zB_iff.mpr (?_ : G m _ (19, [(0, .inl (.ref q0)), (1, .inl (.int a1)), (2, .inl (.int a2))], [.inl (.int (-2 : Int32))], h, 0, 0)))
      exact k_reti HG rfl rfl (fun e1 e2 => hR _ e1 e2)
