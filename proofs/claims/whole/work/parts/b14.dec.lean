noncomputable def B_X3_valueOf_37 (h : zH) (c0 : Nat) (c1 : Int32) (c2 : Int32) (c3 : Int32) (c4 : Int32) (c5 : Int32) (s : (Int64 × Int32)) : (Int64 × Int32) ⊕ (Int32) := (if s.2 < (hv h c0 3) then (if (c2 &&& ((1 : Int32) <<< (s.2 &&& 31))) = (0 : Int32) then (Sum.inl (s.1, (s.2 + (1 : Int32)))) else (letf (F_X3_wonWith h c0 s.2 c1) (fun y1001 => (Sum.inl ((s.1 + (Int32.toInt64 ((hv h (hr h c0 2) y1001.toNatClampNeg) + (hv h (hr h c0 0) (c1 &&& (y1001 ^^^ (-1 : Int32))).toNatClampNeg)))), (s.2 + (1 : Int32))))))) else (if (0 : Int64) < ((s.1 / (Int32.toInt64 c5)) - ((1000 : Int64) * (Int32.toInt64 c4))) then (Sum.inr (Int64.toInt32 ((s.1 / (Int32.toInt64 c5)) - ((1000 : Int64) * (Int32.toInt64 c4))))) else (Sum.inr (0 : Int32))))
noncomputable def F_X3_valueOf (h : zH) (q0 : Nat) (a1 : Int32) (a2 : Int32) (a3 : Int32) (a4 : Int32) : Int32 := (letf (F_J6_bitCount_0f7a4 a2) (fun y1 => (if (0 : Int32) < (a3 + y1) then (letf (F_X3_isSet a1) (fun y2 => (if y2 = (0 : Int32) then (0 : Int32) else (fx (B_X3_valueOf_37 h q0 a1 a2 a3 a4 (a3 + y1)) 0 (((Int32.toInt64 a3) * (Int32.toInt64 (hv h (hr h q0 0) a1.toNatClampNeg))), (0 : Int32)))))) else (0 : Int32))))
theorem x_X3_valueOf {scr : List zV} {T : List Nat} {h : zH} {q0 : Nat} {a1 : Int32} {a2 : Int32} {a3 : Int32} {a4 : Int32} (hsc : cT scr) (K : hOK kty T h) (hq_q0 : T[q0]? = some 3) (hh : cH h) : xI scr 87 [.inl (.ref q0), .inl (.int a1), .inl (.int a2), .inl (.int a3), .inl (.int a4)] h (F_X3_valueOf h q0 a1 a2 a3 a4) := by
  refine xI_intro (E := ze_X3_valueOf) hsc rfl (cTb_ok rfl) hh (fun d r h' G HG Pf hR m => ?_)
  have K := kOK_refl (W := []) K
  unfold F_X3_valueOf
  show G m _ (0, [(0, .inl (.ref q0)), (1, .inl (.int a1)), (2, .inl (.int a2)), (3, .inl (.int a3)), (4, .inl (.int a4))], [], h, 0, 0)
  refine k_steps HG 2 (zB_iff.mpr (?_ : G m _ (2, [(0, .inl (.ref q0)), (1, .inl (.int a1)), (2, .inl (.int a2)), (3, .inl (.int a3)), (4, .inl (.int a4))], [.inl (.int a2), .inl (.int a3)], h, 0, 0)))
  refine k_cSI HG (E' := ze_J6_bitCount_0f7a4) (Or.inl rfl) hsc rfl rfl rfl rfl (fun hh => x_J6_bitCount_0f7a4 hsc hh) (fun y1 => (?_ : G m _ (5, [(0, .inl (.ref q0)), (1, .inl (.int a1)), (2, .inl (.int a2)), (3, .inl (.int a3)), (4, .inl (.int a4))], [.inl (.int y1), .inl (.int a3)], h, 0, 0)))
  refine k_steps HG 4 (kb_le (x := (a3 + y1)) (y := (0 : Int32)) ?_ ?_)
  · show G m _ (20, [(5, .inl (.int (a3 + y1))), (0, .inl (.ref q0)), (1, .inl (.int a1)), (2, .inl (.int a2)), (3, .inl (.int a3)), (4, .inl (.int a4))], [], h, 0, 0)
    refine k_steps HG 1 (zB_iff.mpr (?_ : G m _ (21, [(5, .inl (.int (a3 + y1))), (0, .inl (.ref q0)), (1, .inl (.int a1)), (2, .inl (.int a2)), (3, .inl (.int a3)), (4, .inl (.int a4))], [.inl (.int (0 : Int32))], h, 0, 0)))
    exact k_reti HG rfl rfl (fun e1 e2 => hR _ e1 e2)
  · show G m _ (13, [(5, .inl (.int (a3 + y1))), (0, .inl (.ref q0)), (1, .inl (.int a1)), (2, .inl (.int a2)), (3, .inl (.int a3)), (4, .inl (.int a4))], [], h, 0, 0)
    refine k_steps HG 1 (zB_iff.mpr (?_ : G m _ (14, [(5, .inl (.int (a3 + y1))), (0, .inl (.ref q0)), (1, .inl (.int a1)), (2, .inl (.int a2)), (3, .inl (.int a3)), (4, .inl (.int a4))], [.inl (.int a1)], h, 0, 0)))
    refine k_cSI HG (E' := ze_X3_isSet) (Or.inl rfl) hsc rfl rfl rfl rfl (fun hh => x_X3_isSet hsc hh) (fun y2 => (?_ : G m _ (17, [(5, .inl (.int (a3 + y1))), (0, .inl (.ref q0)), (1, .inl (.int a1)), (2, .inl (.int a2)), (3, .inl (.int a3)), (4, .inl (.int a4))], [.inl (.int y2)], h, 0, 0)))
    refine k_steps HG 1 (kb_ne (x := y2) (y := (0 : Int32)) ?_ ?_)
    · show G m _ (22, [(5, .inl (.int (a3 + y1))), (0, .inl (.ref q0)), (1, .inl (.int a1)), (2, .inl (.int a2)), (3, .inl (.int a3)), (4, .inl (.int a4))], [], h, 0, 0)
      refine k_steps HG 3 (zB_iff.mpr (?_ : G m _ (25, [(5, .inl (.int (a3 + y1))), (0, .inl (.ref q0)), (1, .inl (.int a1)), (2, .inl (.int a2)), (3, .inl (.int a3)), (4, .inl (.int a4))], [.inl (.ref q0), .inl (.long (Int32.toInt64 a3))], h, 0, 0)))
      refine k_getR HG rfl K hq_q0 rfl (Nat.le_of_ble_eq_true rfl) rfl rfl (fun t3 => (?_ : G m _ (28, [(5, .inl (.int (a3 + y1))), (0, .inl (.ref q0)), (1, .inl (.int a1)), (2, .inl (.int a2)), (3, .inl (.int a3)), (4, .inl (.int a4))], [.inl (.ref (hr h q0 0)), .inl (.long (Int32.toInt64 a3))], h, 0, 0)))
      refine k_steps HG 1 (zB_iff.mpr (?_ : G m _ (29, [(5, .inl (.int (a3 + y1))), (0, .inl (.ref q0)), (1, .inl (.int a1)), (2, .inl (.int a2)), (3, .inl (.int a3)), (4, .inl (.int a4))], [.inl (.int a1), .inl (.ref (hr h q0 0)), .inl (.long (Int32.toInt64 a3))], h, 0, 0)))
      refine k_iald HG rfl K t3 rfl (fun _ => rfl) (?_ : G m _ (30, [(5, .inl (.int (a3 + y1))), (0, .inl (.ref q0)), (1, .inl (.int a1)), (2, .inl (.int a2)), (3, .inl (.int a3)), (4, .inl (.int a4))], [.inl (.int (hv h (hr h q0 0) a1.toNatClampNeg)), .inl (.long (Int32.toInt64 a3))], h, 0, 0))
      refine k_steps HG 5 (zB_iff.mpr (?_ : G m _ (37, [(8, .inl (.int (0 : Int32))), (6, .inl (.long ((Int32.toInt64 a3) * (Int32.toInt64 (hv h (hr h q0 0) a1.toNatClampNeg))))), (5, .inl (.int (a3 + y1))), (0, .inl (.ref q0)), (1, .inl (.int a1)), (2, .inl (.int a2)), (3, .inl (.int a3)), (4, .inl (.int a4))], [], h, 0, 0)))
      have lp4 : ∀ m4, m4 ≤ m → ∀ (d4_9 : Int32) (v4_6 : Int64) (v4_8 : Int32), G m4 (Pf (fx (B_X3_valueOf_37 h q0 a1 a2 a3 a4 (a3 + y1)) 0 (v4_6, v4_8))) (37, [(0, .inl (.ref q0)), (1, .inl (.int a1)), (2, .inl (.int a2)), (3, .inl (.int a3)), (4, .inl (.int a4)), (5, .inl (.int (a3 + y1))), (6, .inl (.long v4_6)), (8, .inl (.int v4_8)), (9, .inl (.int d4_9))], [], h, 0, 0) := by
        intro m4
        induction m4 with
        | zero =>
          intros
          exact k_zero HG
        | succ m4 ih4 =>
          intro le4 d4_9 v4_6 v4_8
          have le4 := Nat.le_of_succ_le le4
          have ih4 := ih4 le4
          refine k_fx ?_
          rw [B_X3_valueOf_37]
          refine k_first HG 1 (zB_iff.mpr (?_ : G m4 _ (40, [(0, .inl (.ref q0)), (1, .inl (.int a1)), (2, .inl (.int a2)), (3, .inl (.int a3)), (4, .inl (.int a4)), (5, .inl (.int (a3 + y1))), (6, .inl (.long v4_6)), (8, .inl (.int v4_8)), (9, .inl (.int d4_9))], [.inl (.ref q0), .inl (.int v4_8)], h, 0, 0)))
          refine k_getI HG rfl K hq_q0 rfl (Nat.le_of_ble_eq_true rfl) rfl (?_ : G m4 _ (43, [(0, .inl (.ref q0)), (1, .inl (.int a1)), (2, .inl (.int a2)), (3, .inl (.int a3)), (4, .inl (.int a4)), (5, .inl (.int (a3 + y1))), (6, .inl (.long v4_6)), (8, .inl (.int v4_8)), (9, .inl (.int d4_9))], [.inl (.int (hv h q0 3)), .inl (.int v4_8)], h, 0, 0))
          refine k_steps HG 1 (kb_ge (x := v4_8) (y := (hv h q0 3)) ?_ ?_)
          · show G m4 _ (95, [(0, .inl (.ref q0)), (1, .inl (.int a1)), (2, .inl (.int a2)), (3, .inl (.int a3)), (4, .inl (.int a4)), (5, .inl (.int (a3 + y1))), (6, .inl (.long v4_6)), (8, .inl (.int v4_8)), (9, .inl (.int d4_9))], [], h, 0, 0)
            refine k_steps HG 3 (zB_iff.mpr (?_ : G m4 _ (100, [(0, .inl (.ref q0)), (1, .inl (.int a1)), (2, .inl (.int a2)), (3, .inl (.int a3)), (4, .inl (.int a4)), (5, .inl (.int (a3 + y1))), (6, .inl (.long v4_6)), (8, .inl (.int v4_8)), (9, .inl (.int d4_9))], [.inl (.long (Int32.toInt64 (a3 + y1))), .inl (.long v4_6)], h, 0, 0)))
            refine k_ldv HG rfl (?_ : G m4 _ (101, [(0, .inl (.ref q0)), (1, .inl (.int a1)), (2, .inl (.int a2)), (3, .inl (.int a3)), (4, .inl (.int a4)), (5, .inl (.int (a3 + y1))), (6, .inl (.long v4_6)), (8, .inl (.int v4_8)), (9, .inl (.int d4_9))], [.inl (.long (v4_6 / (Int32.toInt64 (a3 + y1))))], h, 0, 0))
            refine k_steps HG 10 (t_and2 (zisI_lcmp ((v4_6 / (Int32.toInt64 (a3 + y1))) - ((1000 : Int64) * (Int32.toInt64 a4))) (0 : Int64)) (kl_le (x := ((v4_6 / (Int32.toInt64 (a3 + y1))) - ((1000 : Int64) * (Int32.toInt64 a4)))) (y := (0 : Int64)) ?_ ?_))
            · show G m4 _ (124, [(8, .inl (.long ((v4_6 / (Int32.toInt64 (a3 + y1))) - ((1000 : Int64) * (Int32.toInt64 a4))))), (0, .inl (.ref q0)), (1, .inl (.int a1)), (2, .inl (.int a2)), (3, .inl (.int a3)), (4, .inl (.int a4)), (5, .inl (.int (a3 + y1))), (6, .inl (.long v4_6))], [], h, 0, 0)
              refine k_steps HG 1 (zB_iff.mpr (?_ : G m4 _ (125, [(8, .inl (.long ((v4_6 / (Int32.toInt64 (a3 + y1))) - ((1000 : Int64) * (Int32.toInt64 a4))))), (0, .inl (.ref q0)), (1, .inl (.int a1)), (2, .inl (.int a2)), (3, .inl (.int a3)), (4, .inl (.int a4)), (5, .inl (.int (a3 + y1))), (6, .inl (.long v4_6))], [.inl (.int (0 : Int32))], h, 0, 0)))
              exact k_reti HG rfl rfl (fun e1 e2 => hR _ e1 e2)
            · show G m4 _ (118, [(8, .inl (.long ((v4_6 / (Int32.toInt64 (a3 + y1))) - ((1000 : Int64) * (Int32.toInt64 a4))))), (0, .inl (.ref q0)), (1, .inl (.int a1)), (2, .inl (.int a2)), (3, .inl (.int a3)), (4, .inl (.int a4)), (5, .inl (.int (a3 + y1))), (6, .inl (.long v4_6))], [], h, 0, 0)
              refine k_steps HG 3 (zB_iff.mpr (?_ : G m4 _ (125, [(8, .inl (.long ((v4_6 / (Int32.toInt64 (a3 + y1))) - ((1000 : Int64) * (Int32.toInt64 a4))))), (0, .inl (.ref q0)), (1, .inl (.int a1)), (2, .inl (.int a2)), (3, .inl (.int a3)), (4, .inl (.int a4)), (5, .inl (.int (a3 + y1))), (6, .inl (.long v4_6))], [.inl (.int (Int64.toInt32 ((v4_6 / (Int32.toInt64 (a3 + y1))) - ((1000 : Int64) * (Int32.toInt64 a4)))))], h, 0, 0)))
              exact k_reti HG rfl rfl (fun e1 e2 => hR _ e1 e2)
          · show G m4 _ (46, [(0, .inl (.ref q0)), (1, .inl (.int a1)), (2, .inl (.int a2)), (3, .inl (.int a3)), (4, .inl (.int a4)), (5, .inl (.int (a3 + y1))), (6, .inl (.long v4_6)), (8, .inl (.int v4_8)), (9, .inl (.int d4_9))], [], h, 0, 0)
            refine k_steps HG 6 (kb_eq (x := (a2 &&& ((1 : Int32) <<< (v4_8 &&& 31)))) (y := (0 : Int32)) ?_ ?_)
            · show G m4 _ (89, [(0, .inl (.ref q0)), (1, .inl (.int a1)), (2, .inl (.int a2)), (3, .inl (.int a3)), (4, .inl (.int a4)), (5, .inl (.int (a3 + y1))), (6, .inl (.long v4_6)), (8, .inl (.int v4_8)), (9, .inl (.int d4_9))], [], h, 0, 0)
              refine k_steps HG 2 (zB_iff.mpr (?_ : G m4 _ (37, [(8, .inl (.int (v4_8 + (1 : Int32)))), (0, .inl (.ref q0)), (1, .inl (.int a1)), (2, .inl (.int a2)), (3, .inl (.int a3)), (4, .inl (.int a4)), (5, .inl (.int (a3 + y1))), (6, .inl (.long v4_6)), (9, .inl (.int d4_9))], [], h, 0, 0)))
              refine k_ext HG (L' := [(0, .inl (.ref q0)), (1, .inl (.int a1)), (2, .inl (.int a2)), (3, .inl (.int a3)), (4, .inl (.int a4)), (5, .inl (.int (a3 + y1))), (6, .inl (.long v4_6)), (8, .inl (.int (v4_8 + (1 : Int32)))), (9, .inl (.int d4_9))]) rfl rfl ⟨rfl, rfl, rfl, rfl, rfl, rfl, rfl, rfl, rfl, trivial⟩ ?_
              exact ih4 _ _ _
            · show G m4 _ (55, [(0, .inl (.ref q0)), (1, .inl (.int a1)), (2, .inl (.int a2)), (3, .inl (.int a3)), (4, .inl (.int a4)), (5, .inl (.int (a3 + y1))), (6, .inl (.long v4_6)), (8, .inl (.int v4_8)), (9, .inl (.int d4_9))], [], h, 0, 0)
              refine k_steps HG 3 (zB_iff.mpr (?_ : G m4 _ (59, [(0, .inl (.ref q0)), (1, .inl (.int a1)), (2, .inl (.int a2)), (3, .inl (.int a3)), (4, .inl (.int a4)), (5, .inl (.int (a3 + y1))), (6, .inl (.long v4_6)), (8, .inl (.int v4_8)), (9, .inl (.int d4_9))], [.inl (.int a1), .inl (.int v4_8), .inl (.ref q0)], h, 0, 0)))
              refine k_cVI HG (E' := ze_X3_wonWith) (Or.inl ⟨rfl, rfl⟩) hsc rfl rfl rfl rfl rfl (fun hh => x_X3_wonWith hsc K.1 hq_q0 hh) (fun y5 => (?_ : G m4 _ (62, [(0, .inl (.ref q0)), (1, .inl (.int a1)), (2, .inl (.int a2)), (3, .inl (.int a3)), (4, .inl (.int a4)), (5, .inl (.int (a3 + y1))), (6, .inl (.long v4_6)), (8, .inl (.int v4_8)), (9, .inl (.int d4_9))], [.inl (.int y5)], h, 0, 0)))
              refine k_steps HG 3 (zB_iff.mpr (?_ : G m4 _ (67, [(9, .inl (.int y5)), (0, .inl (.ref q0)), (1, .inl (.int a1)), (2, .inl (.int a2)), (3, .inl (.int a3)), (4, .inl (.int a4)), (5, .inl (.int (a3 + y1))), (6, .inl (.long v4_6)), (8, .inl (.int v4_8))], [.inl (.ref q0), .inl (.long v4_6)], h, 0, 0)))
              refine k_getR HG rfl K hq_q0 rfl (Nat.le_of_ble_eq_true rfl) rfl rfl (fun t6 => (?_ : G m4 _ (70, [(9, .inl (.int y5)), (0, .inl (.ref q0)), (1, .inl (.int a1)), (2, .inl (.int a2)), (3, .inl (.int a3)), (4, .inl (.int a4)), (5, .inl (.int (a3 + y1))), (6, .inl (.long v4_6)), (8, .inl (.int v4_8))], [.inl (.ref (hr h q0 2)), .inl (.long v4_6)], h, 0, 0)))
              refine k_steps HG 1 (zB_iff.mpr (?_ : G m4 _ (72, [(9, .inl (.int y5)), (0, .inl (.ref q0)), (1, .inl (.int a1)), (2, .inl (.int a2)), (3, .inl (.int a3)), (4, .inl (.int a4)), (5, .inl (.int (a3 + y1))), (6, .inl (.long v4_6)), (8, .inl (.int v4_8))], [.inl (.int y5), .inl (.ref (hr h q0 2)), .inl (.long v4_6)], h, 0, 0)))
              refine k_iald HG rfl K t6 rfl (fun _ => rfl) (?_ : G m4 _ (73, [(9, .inl (.int y5)), (0, .inl (.ref q0)), (1, .inl (.int a1)), (2, .inl (.int a2)), (3, .inl (.int a3)), (4, .inl (.int a4)), (5, .inl (.int (a3 + y1))), (6, .inl (.long v4_6)), (8, .inl (.int v4_8))], [.inl (.int (hv h (hr h q0 2) y5.toNatClampNeg)), .inl (.long v4_6)], h, 0, 0))
              refine k_steps HG 1 (zB_iff.mpr (?_ : G m4 _ (74, [(9, .inl (.int y5)), (0, .inl (.ref q0)), (1, .inl (.int a1)), (2, .inl (.int a2)), (3, .inl (.int a3)), (4, .inl (.int a4)), (5, .inl (.int (a3 + y1))), (6, .inl (.long v4_6)), (8, .inl (.int v4_8))], [.inl (.ref q0), .inl (.int (hv h (hr h q0 2) y5.toNatClampNeg)), .inl (.long v4_6)], h, 0, 0)))
              refine k_getR HG rfl K hq_q0 rfl (Nat.le_of_ble_eq_true rfl) rfl rfl (fun t7 => (?_ : G m4 _ (77, [(9, .inl (.int y5)), (0, .inl (.ref q0)), (1, .inl (.int a1)), (2, .inl (.int a2)), (3, .inl (.int a3)), (4, .inl (.int a4)), (5, .inl (.int (a3 + y1))), (6, .inl (.long v4_6)), (8, .inl (.int v4_8))], [.inl (.ref (hr h q0 0)), .inl (.int (hv h (hr h q0 2) y5.toNatClampNeg)), .inl (.long v4_6)], h, 0, 0)))
              refine k_steps HG 5 (zB_iff.mpr (?_ : G m4 _ (83, [(9, .inl (.int y5)), (0, .inl (.ref q0)), (1, .inl (.int a1)), (2, .inl (.int a2)), (3, .inl (.int a3)), (4, .inl (.int a4)), (5, .inl (.int (a3 + y1))), (6, .inl (.long v4_6)), (8, .inl (.int v4_8))], [.inl (.int (a1 &&& (y5 ^^^ (-1 : Int32)))), .inl (.ref (hr h q0 0)), .inl (.int (hv h (hr h q0 2) y5.toNatClampNeg)), .inl (.long v4_6)], h, 0, 0)))
              refine k_iald HG rfl K t7 rfl (fun _ => rfl) (?_ : G m4 _ (84, [(9, .inl (.int y5)), (0, .inl (.ref q0)), (1, .inl (.int a1)), (2, .inl (.int a2)), (3, .inl (.int a3)), (4, .inl (.int a4)), (5, .inl (.int (a3 + y1))), (6, .inl (.long v4_6)), (8, .inl (.int v4_8))], [.inl (.int (hv h (hr h q0 0) (a1 &&& (y5 ^^^ (-1 : Int32))).toNatClampNeg)), .inl (.int (hv h (hr h q0 2) y5.toNatClampNeg)), .inl (.long v4_6)], h, 0, 0))
              refine k_steps HG 6 (zB_iff.mpr (?_ : G m4 _ (37, [(8, .inl (.int (v4_8 + (1 : Int32)))), (6, .inl (.long (v4_6 + (Int32.toInt64 ((hv h (hr h q0 2) y5.toNatClampNeg) + (hv h (hr h q0 0) (a1 &&& (y5 ^^^ (-1 : Int32))).toNatClampNeg)))))), (9, .inl (.int y5)), (0, .inl (.ref q0)), (1, .inl (.int a1)), (2, .inl (.int a2)), (3, .inl (.int a3)), (4, .inl (.int a4)), (5, .inl (.int (a3 + y1)))], [], h, 0, 0)))
              refine k_ext HG (L' := [(0, .inl (.ref q0)), (1, .inl (.int a1)), (2, .inl (.int a2)), (3, .inl (.int a3)), (4, .inl (.int a4)), (5, .inl (.int (a3 + y1))), (6, .inl (.long (v4_6 + (Int32.toInt64 ((hv h (hr h q0 2) y5.toNatClampNeg) + (hv h (hr h q0 0) (a1 &&& (y5 ^^^ (-1 : Int32))).toNatClampNeg)))))), (8, .inl (.int (v4_8 + (1 : Int32)))), (9, .inl (.int y5))]) rfl rfl ⟨rfl, rfl, rfl, rfl, rfl, rfl, rfl, rfl, rfl, trivial⟩ ?_
              exact ih4 _ _ _
      refine k_ext HG (L' := [(0, .inl (.ref q0)), (1, .inl (.int a1)), (2, .inl (.int a2)), (3, .inl (.int a3)), (4, .inl (.int a4)), (5, .inl (.int (a3 + y1))), (6, .inl (.long ((Int32.toInt64 a3) * (Int32.toInt64 (hv h (hr h q0 0) a1.toNatClampNeg))))), (8, .inl (.int (0 : Int32))), (9, .inl (.int (0 : Int32)))]) rfl rfl ⟨rfl, rfl, rfl, rfl, rfl, rfl, rfl, rfl, trivial⟩ ?_
      exact lp4 m (Nat.le_refl _) _ _ _
    · show G m _ (20, [(5, .inl (.int (a3 + y1))), (0, .inl (.ref q0)), (1, .inl (.int a1)), (2, .inl (.int a2)), (3, .inl (.int a3)), (4, .inl (.int a4))], [], h, 0, 0)
      refine k_steps HG 1 (zB_iff.mpr (?_ : G m _ (21, [(5, .inl (.int (a3 + y1))), (0, .inl (.ref q0)), (1, .inl (.int a1)), (2, .inl (.int a2)), (3, .inl (.int a3)), (4, .inl (.int a4))], [.inl (.int (0 : Int32))], h, 0, 0)))
      exact k_reti HG rfl rfl (fun e1 e2 => hR _ e1 e2)
def W_X3_weigh : List (Nat × Nat) := [(21, 1000)]
noncomputable def B_X3_weigh_28 (c0 : Nat) (c1 : Nat) (c2 : Int32) (c3 : Int32) (c4 : Int32) (c5 : Int32) (s : (Int32 × zH)) : (Int32 × zH) ⊕ ((Int32 × zH) ⊕ (zH)) := (if s.1 < c4 then (letf (hput s.2 (hr s.2 c0 2) (c4 + s.1).toNatClampNeg (.inl (.int ((hv s.2 (hr s.2 c0 2) s.1.toNatClampNeg) + c5)))) (fun h2003 => (Sum.inl ((s.1 + (1 : Int32)), h2003)))) else (Sum.inr (Sum.inl ((c3 + (1 : Int32)), s.2))))
noncomputable def B_X3_weigh_2 (c0 : Nat) (c1 : Nat) (c2 : Int32) (s : (Int32 × zH)) : (Int32 × zH) ⊕ (zH) := (if s.1 < (8 : Int32) then (letf (F_X1_liking s.2 c1 c2 s.1) (fun y1001 => (fx (B_X3_weigh_28 c0 c1 c2 s.1 ((1 : Int32) <<< (s.1 &&& 31)) ((1000 : Int32) * y1001)) (Sum.inr []) ((0 : Int32), s.2)))) else (Sum.inr s.2))
noncomputable def F_X3_weigh (h : zH) (q0 : Nat) (q1 : Nat) (a2 : Int32) : zH := (fx (B_X3_weigh_2 q0 q1 a2) [] ((0 : Int32), h))
theorem x_X3_weigh {scr : List zV} {T : List Nat} {h : zH} {q0 : Nat} {q1 : Nat} {a2 : Int32} (hsc : cT scr) (K : hOK kty T h) (hq_q0 : T[q0]? = some 3) (hq_q1 : T[q1]? = some 1) (hh : cH h) : xH scr W_X3_weigh T T 88 [.inl (.ref q0), .inl (.ref q1), .inl (.int a2)] h (F_X3_weigh h q0 q1 a2) := by
  refine xH_intro (E := ze_X3_weigh) hsc rfl (cTb_ok rfl) hh (fun d r h' G HG Pf hR m => ?_)
  have K := kOK_refl (W := W_X3_weigh) K
  unfold F_X3_weigh
  show G m _ (0, [(0, .inl (.ref q0)), (1, .inl (.ref q1)), (2, .inl (.int a2))], [], h, 0, 0)
  refine k_steps HG 2 (zB_iff.mpr (?_ : G m _ (2, [(3, .inl (.int (0 : Int32))), (0, .inl (.ref q0)), (1, .inl (.ref q1)), (2, .inl (.int a2))], [], h, 0, 0)))
  have lp1 : ∀ m1, m1 ≤ m → ∀ (d1_4 : Int32) (d1_5 : Int32) (d1_6 : Int32) (v1_3 : Int32) (h1 : zH), kOK W_X3_weigh T T h h1 → G m1 (Pf (fx (B_X3_weigh_2 q0 q1 a2) [] (v1_3, h1))) (2, [(0, .inl (.ref q0)), (1, .inl (.ref q1)), (2, .inl (.int a2)), (3, .inl (.int v1_3)), (4, .inl (.int d1_4)), (5, .inl (.int d1_5)), (6, .inl (.int d1_6))], [], h1, 0, 0) := by
    intro m1
    induction m1 with
    | zero =>
      intros
      exact k_zero HG
    | succ m1 ih1 =>
      intro le1 d1_4 d1_5 d1_6 v1_3 h1 K1
      have le1 := Nat.le_of_succ_le le1
      have ih1 := ih1 le1
      refine k_fx ?_
      rw [B_X3_weigh_2]
      refine k_first HG 2 (kb_ge (x := v1_3) (y := (8 : Int32)) ?_ ?_)
      · show G m1 _ (67, [(0, .inl (.ref q0)), (1, .inl (.ref q1)), (2, .inl (.int a2)), (3, .inl (.int v1_3)), (4, .inl (.int d1_4)), (5, .inl (.int d1_5)), (6, .inl (.int d1_6))], [], h1, 0, 0)
        exact k_retv HG rfl rfl (fun e1 e2 => hR _ e1 e2 K1)
      · show G m1 _ (8, [(0, .inl (.ref q0)), (1, .inl (.ref q1)), (2, .inl (.int a2)), (3, .inl (.int v1_3)), (4, .inl (.int d1_4)), (5, .inl (.int d1_5)), (6, .inl (.int d1_6))], [], h1, 0, 0)
        refine k_steps HG 8 (zB_iff.mpr (?_ : G m1 _ (19, [(4, .inl (.int ((1 : Int32) <<< (v1_3 &&& 31)))), (0, .inl (.ref q0)), (1, .inl (.ref q1)), (2, .inl (.int a2)), (3, .inl (.int v1_3)), (5, .inl (.int d1_5)), (6, .inl (.int d1_6))], [.inl (.int v1_3), .inl (.int a2), .inl (.ref q1), .inl (.int (1000 : Int32))], h1, 0, 0)))
        refine k_cVI HG (E' := ze_X1_liking) (Or.inl ⟨rfl, rfl⟩) hsc rfl rfl rfl rfl rfl (fun hh => x_X1_liking hsc K1.1 hq_q1 hh) (fun y2 => (?_ : G m1 _ (22, [(4, .inl (.int ((1 : Int32) <<< (v1_3 &&& 31)))), (0, .inl (.ref q0)), (1, .inl (.ref q1)), (2, .inl (.int a2)), (3, .inl (.int v1_3)), (5, .inl (.int d1_5)), (6, .inl (.int d1_6))], [.inl (.int y2), .inl (.int (1000 : Int32))], h1, 0, 0)))
        refine k_steps HG 4 (zB_iff.mpr (?_ : G m1 _ (28, [(6, .inl (.int (0 : Int32))), (5, .inl (.int ((1000 : Int32) * y2))), (4, .inl (.int ((1 : Int32) <<< (v1_3 &&& 31)))), (0, .inl (.ref q0)), (1, .inl (.ref q1)), (2, .inl (.int a2)), (3, .inl (.int v1_3))], [], h1, 0, 0)))
        have lp3 : ∀ m3, m3 ≤ m1 → ∀ (v3_6 : Int32) (h3 : zH), kOK W_X3_weigh T T h h3 → G m3 ((fxP Pf (B_X3_weigh_2 q0 q1 a2) []) (fx (B_X3_weigh_28 q0 q1 a2 v1_3 ((1 : Int32) <<< (v1_3 &&& 31)) ((1000 : Int32) * y2)) (Sum.inr []) (v3_6, h3))) (28, [(0, .inl (.ref q0)), (1, .inl (.ref q1)), (2, .inl (.int a2)), (3, .inl (.int v1_3)), (4, .inl (.int ((1 : Int32) <<< (v1_3 &&& 31)))), (5, .inl (.int ((1000 : Int32) * y2))), (6, .inl (.int v3_6))], [], h3, 0, 0) := by
          intro m3
          induction m3 with
          | zero =>
            intros
            exact k_zero HG
          | succ m3 ih3 =>
            intro le3 v3_6 h3 K3
            have le3 := Nat.le_of_succ_le le3
            have ih3 := ih3 le3
            refine k_fx ?_
            rw [B_X3_weigh_28]
            refine k_first HG 2 (kb_ge (x := v3_6) (y := ((1 : Int32) <<< (v1_3 &&& 31))) ?_ ?_)
            · show G m3 _ (61, [(0, .inl (.ref q0)), (1, .inl (.ref q1)), (2, .inl (.int a2)), (3, .inl (.int v1_3)), (4, .inl (.int ((1 : Int32) <<< (v1_3 &&& 31)))), (5, .inl (.int ((1000 : Int32) * y2))), (6, .inl (.int v3_6))], [], h3, 0, 0)
              refine k_steps HG 2 (zB_iff.mpr (?_ : G m3 _ (2, [(3, .inl (.int (v1_3 + (1 : Int32)))), (0, .inl (.ref q0)), (1, .inl (.ref q1)), (2, .inl (.int a2)), (4, .inl (.int ((1 : Int32) <<< (v1_3 &&& 31)))), (5, .inl (.int ((1000 : Int32) * y2))), (6, .inl (.int v3_6))], [], h3, 0, 0)))
              refine k_ext HG (L' := [(0, .inl (.ref q0)), (1, .inl (.ref q1)), (2, .inl (.int a2)), (3, .inl (.int (v1_3 + (1 : Int32)))), (4, .inl (.int ((1 : Int32) <<< (v1_3 &&& 31)))), (5, .inl (.int ((1000 : Int32) * y2))), (6, .inl (.int v3_6))]) rfl rfl ⟨rfl, rfl, rfl, rfl, rfl, rfl, rfl, trivial⟩ ?_
              exact k_mono HG le3 (ih1 _ _ _ _ _ K3)
            · show G m3 _ (35, [(0, .inl (.ref q0)), (1, .inl (.ref q1)), (2, .inl (.int a2)), (3, .inl (.int v1_3)), (4, .inl (.int ((1 : Int32) <<< (v1_3 &&& 31)))), (5, .inl (.int ((1000 : Int32) * y2))), (6, .inl (.int v3_6))], [], h3, 0, 0)
              refine k_steps HG 1 (zB_iff.mpr (?_ : G m3 _ (36, [(0, .inl (.ref q0)), (1, .inl (.ref q1)), (2, .inl (.int a2)), (3, .inl (.int v1_3)), (4, .inl (.int ((1 : Int32) <<< (v1_3 &&& 31)))), (5, .inl (.int ((1000 : Int32) * y2))), (6, .inl (.int v3_6))], [.inl (.ref q0)], h3, 0, 0)))
              refine k_getR HG rfl K3 hq_q0 rfl (Nat.le_of_ble_eq_true rfl) rfl rfl (fun t4 => (?_ : G m3 _ (39, [(0, .inl (.ref q0)), (1, .inl (.ref q1)), (2, .inl (.int a2)), (3, .inl (.int v1_3)), (4, .inl (.int ((1 : Int32) <<< (v1_3 &&& 31)))), (5, .inl (.int ((1000 : Int32) * y2))), (6, .inl (.int v3_6))], [.inl (.ref (hr h3 q0 2))], h3, 0, 0)))
              refine k_steps HG 4 (zB_iff.mpr (?_ : G m3 _ (45, [(0, .inl (.ref q0)), (1, .inl (.ref q1)), (2, .inl (.int a2)), (3, .inl (.int v1_3)), (4, .inl (.int ((1 : Int32) <<< (v1_3 &&& 31)))), (5, .inl (.int ((1000 : Int32) * y2))), (6, .inl (.int v3_6))], [.inl (.ref q0), .inl (.int (((1 : Int32) <<< (v1_3 &&& 31)) + v3_6)), .inl (.ref (hr h3 q0 2))], h3, 0, 0)))
              refine k_getR HG rfl K3 hq_q0 rfl (Nat.le_of_ble_eq_true rfl) rfl rfl (fun t5 => (?_ : G m3 _ (48, [(0, .inl (.ref q0)), (1, .inl (.ref q1)), (2, .inl (.int a2)), (3, .inl (.int v1_3)), (4, .inl (.int ((1 : Int32) <<< (v1_3 &&& 31)))), (5, .inl (.int ((1000 : Int32) * y2))), (6, .inl (.int v3_6))], [.inl (.ref (hr h3 q0 2)), .inl (.int (((1 : Int32) <<< (v1_3 &&& 31)) + v3_6)), .inl (.ref (hr h3 q0 2))], h3, 0, 0)))
              refine k_steps HG 1 (zB_iff.mpr (?_ : G m3 _ (50, [(0, .inl (.ref q0)), (1, .inl (.ref q1)), (2, .inl (.int a2)), (3, .inl (.int v1_3)), (4, .inl (.int ((1 : Int32) <<< (v1_3 &&& 31)))), (5, .inl (.int ((1000 : Int32) * y2))), (6, .inl (.int v3_6))], [.inl (.int v3_6), .inl (.ref (hr h3 q0 2)), .inl (.int (((1 : Int32) <<< (v1_3 &&& 31)) + v3_6)), .inl (.ref (hr h3 q0 2))], h3, 0, 0)))
              refine k_iald HG rfl K3 t5 rfl (fun _ => rfl) (?_ : G m3 _ (51, [(0, .inl (.ref q0)), (1, .inl (.ref q1)), (2, .inl (.int a2)), (3, .inl (.int v1_3)), (4, .inl (.int ((1 : Int32) <<< (v1_3 &&& 31)))), (5, .inl (.int ((1000 : Int32) * y2))), (6, .inl (.int v3_6))], [.inl (.int (hv h3 (hr h3 q0 2) v3_6.toNatClampNeg)), .inl (.int (((1 : Int32) <<< (v1_3 &&& 31)) + v3_6)), .inl (.ref (hr h3 q0 2))], h3, 0, 0))
              refine k_steps HG 2 (zB_iff.mpr (?_ : G m3 _ (54, [(0, .inl (.ref q0)), (1, .inl (.ref q1)), (2, .inl (.int a2)), (3, .inl (.int v1_3)), (4, .inl (.int ((1 : Int32) <<< (v1_3 &&& 31)))), (5, .inl (.int ((1000 : Int32) * y2))), (6, .inl (.int v3_6))], [.inl (.int ((hv h3 (hr h3 q0 2) v3_6.toNatClampNeg) + ((1000 : Int32) * y2))), .inl (.int (((1 : Int32) <<< (v1_3 &&& 31)) + v3_6)), .inl (.ref (hr h3 q0 2))], h3, 0, 0)))
              refine k_iast HG rfl K3 t5 rfl (fun _ => rfl) rfl (fun h6 K6 => (?_ : G m3 _ (55, [(0, .inl (.ref q0)), (1, .inl (.ref q1)), (2, .inl (.int a2)), (3, .inl (.int v1_3)), (4, .inl (.int ((1 : Int32) <<< (v1_3 &&& 31)))), (5, .inl (.int ((1000 : Int32) * y2))), (6, .inl (.int v3_6))], [], h6, 0, 0)))
              refine k_steps HG 2 (zB_iff.mpr (?_ : G m3 _ (28, [(6, .inl (.int (v3_6 + (1 : Int32)))), (0, .inl (.ref q0)), (1, .inl (.ref q1)), (2, .inl (.int a2)), (3, .inl (.int v1_3)), (4, .inl (.int ((1 : Int32) <<< (v1_3 &&& 31)))), (5, .inl (.int ((1000 : Int32) * y2)))], [], h6, 0, 0)))
              refine k_ext HG (L' := [(0, .inl (.ref q0)), (1, .inl (.ref q1)), (2, .inl (.int a2)), (3, .inl (.int v1_3)), (4, .inl (.int ((1 : Int32) <<< (v1_3 &&& 31)))), (5, .inl (.int ((1000 : Int32) * y2))), (6, .inl (.int (v3_6 + (1 : Int32))))]) rfl rfl ⟨rfl, rfl, rfl, rfl, rfl, rfl, rfl, trivial⟩ ?_
              exact ih3 _ _ K6
        refine k_ext HG (L' := [(0, .inl (.ref q0)), (1, .inl (.ref q1)), (2, .inl (.int a2)), (3, .inl (.int v1_3)), (4, .inl (.int ((1 : Int32) <<< (v1_3 &&& 31)))), (5, .inl (.int ((1000 : Int32) * y2))), (6, .inl (.int (0 : Int32)))]) rfl rfl ⟨rfl, rfl, rfl, rfl, rfl, rfl, rfl, trivial⟩ ?_
        exact lp3 m1 (Nat.le_refl _) _ _ K1
  refine k_ext HG (L' := [(0, .inl (.ref q0)), (1, .inl (.ref q1)), (2, .inl (.int a2)), (3, .inl (.int (0 : Int32))), (4, .inl (.int (0 : Int32))), (5, .inl (.int (0 : Int32))), (6, .inl (.int (0 : Int32)))]) rfl rfl ⟨rfl, rfl, rfl, rfl, trivial⟩ ?_
  exact lp1 m (Nat.le_refl _) _ _ _ _ _ K
def W_X4_back : List (Nat × Nat) := [(0, 0), (1, 0), (1, 1), (1, 2), (1, 3), (1, 4), (1, 5), (1, 6), (1, 7), (1, 8), (1, 14), (11, 1000), (12, 1000), (13, 1000), (14, 1000), (15, 1000), (16, 1000), (17, 1000), (23, 1000)]
noncomputable def B_X4_back_27 (c0 : Nat) (s : (Int32 × zH)) : (Int32 × zH) ⊕ (Int32 × zH) := (if s.1 < (8 : Int32) then (if (hv s.2 (hr s.2 (hr s.2 c0 5) s.1.toNatClampNeg) 0) < ((10 : Int32) + (hv s.2 (hr s.2 c0 0) 8)) then (Sum.inl ((s.1 + (1 : Int32)), s.2)) else (letf (hput s.2 (hr s.2 (hr s.2 c0 5) s.1.toNatClampNeg) 0 (.inl (.int (-1 : Int32)))) (fun h1006 => (Sum.inl ((s.1 + (1 : Int32)), h1006))))) else (Sum.inr ((1 : Int32), s.2)))
noncomputable def F_X4_back (h : zH) (q0 : Nat) : Int32 × zH := (if (hv h q0 7) = (0 : Int32) then (letf (F_X4_refuse h q0 (-5 : Int32)) (fun y11 => (y11.1, y11.2))) else (letf (F_X1_become h (hr h q0 0) (hr h q0 1)) (fun h3 => (fx (B_X4_back_27 q0) (0, []) ((0 : Int32), h3)))))
theorem x_X4_back {scr : List zV} {T : List Nat} {h : zH} {q0 : Nat} (hsc : cT scr) (K : hOK kty T h) (hq_q0 : T[q0]? = some 4) (hh : cH h) : xIH scr W_X4_back T T 93 [.inl (.ref q0)] h (F_X4_back h q0) := by
  refine xIH_intro (E := ze_X4_back) hsc rfl (cTb_ok rfl) hh (fun d r h' G HG Pf hR m => ?_)
  have K := kOK_refl (W := W_X4_back) K
  unfold F_X4_back
  show G m _ (0, [(0, .inl (.ref q0))], [], h, 0, 0)
  refine k_steps HG 1 (zB_iff.mpr (?_ : G m _ (1, [(0, .inl (.ref q0))], [.inl (.ref q0)], h, 0, 0)))
  refine k_getI HG rfl K hq_q0 rfl (Nat.le_of_ble_eq_true rfl) rfl (?_ : G m _ (4, [(0, .inl (.ref q0))], [.inl (.int (hv h q0 7))], h, 0, 0))
  refine k_steps HG 1 (kb_ne (x := (hv h q0 7)) (y := (0 : Int32)) ?_ ?_)
  · show G m _ (14, [(0, .inl (.ref q0))], [], h, 0, 0)
    refine k_steps HG 1 (zB_iff.mpr (?_ : G m _ (15, [(0, .inl (.ref q0))], [.inl (.ref q0)], h, 0, 0)))
    refine k_getR HG rfl K hq_q0 rfl (Nat.le_of_ble_eq_true rfl) rfl rfl (fun t1 => (?_ : G m _ (18, [(0, .inl (.ref q0))], [.inl (.ref (hr h q0 0))], h, 0, 0)))
    refine k_steps HG 1 (zB_iff.mpr (?_ : G m _ (19, [(0, .inl (.ref q0))], [.inl (.ref q0), .inl (.ref (hr h q0 0))], h, 0, 0)))
    refine k_getR HG rfl K hq_q0 rfl (Nat.le_of_ble_eq_true rfl) rfl rfl (fun t2 => (?_ : G m _ (22, [(0, .inl (.ref q0))], [.inl (.ref (hr h q0 1)), .inl (.ref (hr h q0 0))], h, 0, 0)))
    refine k_cVH HG (E' := ze_X1_become) (Or.inl ⟨rfl, rfl⟩) hsc rfl rfl rfl rfl rfl K rfl (fun hh => x_X1_become hsc K.1 t1 t2 hh) (fun h3 K3 => (?_ : G m _ (25, [(0, .inl (.ref q0))], [], h3, 0, 0)))
    refine k_steps HG 2 (zB_iff.mpr (?_ : G m _ (27, [(1, .inl (.int (0 : Int32))), (0, .inl (.ref q0))], [], h3, 0, 0)))
    have lp4 : ∀ m4, m4 ≤ m → ∀ (v4_1 : Int32) (h4 : zH), kOK W_X4_back T T h h4 → G m4 (Pf (fx (B_X4_back_27 q0) (0, []) (v4_1, h4))) (27, [(0, .inl (.ref q0)), (1, .inl (.int v4_1))], [], h4, 0, 0) := by
      intro m4
      induction m4 with
      | zero =>
        intros
        exact k_zero HG
      | succ m4 ih4 =>
        intro le4 v4_1 h4 K4
        have le4 := Nat.le_of_succ_le le4
        have ih4 := ih4 le4
        refine k_fx ?_
        rw [B_X4_back_27]
        refine k_first HG 2 (kb_ge (x := v4_1) (y := (8 : Int32)) ?_ ?_)
        · show G m4 _ (71, [(0, .inl (.ref q0)), (1, .inl (.int v4_1))], [], h4, 0, 0)
          refine k_steps HG 1 (zB_iff.mpr (?_ : G m4 _ (72, [(0, .inl (.ref q0)), (1, .inl (.int v4_1))], [.inl (.int (1 : Int32))], h4, 0, 0)))
          exact k_reti HG rfl rfl (fun e1 e2 => hR _ _ e1 e2 K4)
        · show G m4 _ (33, [(0, .inl (.ref q0)), (1, .inl (.int v4_1))], [], h4, 0, 0)
          refine k_steps HG 1 (zB_iff.mpr (?_ : G m4 _ (34, [(0, .inl (.ref q0)), (1, .inl (.int v4_1))], [.inl (.ref q0)], h4, 0, 0)))
          refine k_getR HG rfl K4 hq_q0 rfl (Nat.le_of_ble_eq_true rfl) rfl rfl (fun t5 => (?_ : G m4 _ (37, [(0, .inl (.ref q0)), (1, .inl (.int v4_1))], [.inl (.ref (hr h4 q0 5))], h4, 0, 0)))
          refine k_steps HG 1 (zB_iff.mpr (?_ : G m4 _ (38, [(0, .inl (.ref q0)), (1, .inl (.int v4_1))], [.inl (.int v4_1), .inl (.ref (hr h4 q0 5))], h4, 0, 0)))
          refine k_aald HG rfl K4 t5 (fun _ => ⟨rfl, rfl⟩) (fun t6 => (?_ : G m4 _ (39, [(0, .inl (.ref q0)), (1, .inl (.int v4_1))], [.inl (.ref (hr h4 (hr h4 q0 5) v4_1.toNatClampNeg))], h4, 0, 0)))
          refine k_getI HG rfl K4 t6 rfl (Nat.le_of_ble_eq_true rfl) rfl (?_ : G m4 _ (42, [(0, .inl (.ref q0)), (1, .inl (.int v4_1))], [.inl (.int (hv h4 (hr h4 (hr h4 q0 5) v4_1.toNatClampNeg) 0))], h4, 0, 0))
          refine k_steps HG 2 (zB_iff.mpr (?_ : G m4 _ (45, [(0, .inl (.ref q0)), (1, .inl (.int v4_1))], [.inl (.ref q0), .inl (.int (10 : Int32)), .inl (.int (hv h4 (hr h4 (hr h4 q0 5) v4_1.toNatClampNeg) 0))], h4, 0, 0)))
          refine k_getR HG rfl K4 hq_q0 rfl (Nat.le_of_ble_eq_true rfl) rfl rfl (fun t7 => (?_ : G m4 _ (48, [(0, .inl (.ref q0)), (1, .inl (.int v4_1))], [.inl (.ref (hr h4 q0 0)), .inl (.int (10 : Int32)), .inl (.int (hv h4 (hr h4 (hr h4 q0 5) v4_1.toNatClampNeg) 0))], h4, 0, 0)))
          refine k_getI HG rfl K4 t7 rfl (Nat.le_of_ble_eq_true rfl) rfl (?_ : G m4 _ (51, [(0, .inl (.ref q0)), (1, .inl (.int v4_1))], [.inl (.int (hv h4 (hr h4 q0 0) 8)), .inl (.int (10 : Int32)), .inl (.int (hv h4 (hr h4 (hr h4 q0 5) v4_1.toNatClampNeg) 0))], h4, 0, 0))
          refine k_steps HG 2 (kb_lt (x := (hv h4 (hr h4 (hr h4 q0 5) v4_1.toNatClampNeg) 0)) (y := ((10 : Int32) + (hv h4 (hr h4 q0 0) 8))) ?_ ?_)
          · show G m4 _ (65, [(0, .inl (.ref q0)), (1, .inl (.int v4_1))], [], h4, 0, 0)
            refine k_steps HG 2 (zB_iff.mpr (?_ : G m4 _ (27, [(1, .inl (.int (v4_1 + (1 : Int32)))), (0, .inl (.ref q0))], [], h4, 0, 0)))
            refine k_ext HG (L' := [(0, .inl (.ref q0)), (1, .inl (.int (v4_1 + (1 : Int32))))]) rfl rfl ⟨rfl, rfl, trivial⟩ ?_
            exact ih4 _ _ K4
          · show G m4 _ (55, [(0, .inl (.ref q0)), (1, .inl (.int v4_1))], [], h4, 0, 0)
            refine k_steps HG 1 (zB_iff.mpr (?_ : G m4 _ (56, [(0, .inl (.ref q0)), (1, .inl (.int v4_1))], [.inl (.ref q0)], h4, 0, 0)))
            refine k_getR HG rfl K4 hq_q0 rfl (Nat.le_of_ble_eq_true rfl) rfl rfl (fun t8 => (?_ : G m4 _ (59, [(0, .inl (.ref q0)), (1, .inl (.int v4_1))], [.inl (.ref (hr h4 q0 5))], h4, 0, 0)))
            refine k_steps HG 1 (zB_iff.mpr (?_ : G m4 _ (60, [(0, .inl (.ref q0)), (1, .inl (.int v4_1))], [.inl (.int v4_1), .inl (.ref (hr h4 q0 5))], h4, 0, 0)))
            refine k_aald HG rfl K4 t8 (fun _ => ⟨rfl, rfl⟩) (fun t9 => (?_ : G m4 _ (61, [(0, .inl (.ref q0)), (1, .inl (.int v4_1))], [.inl (.ref (hr h4 (hr h4 q0 5) v4_1.toNatClampNeg))], h4, 0, 0)))
            refine k_steps HG 1 (zB_iff.mpr (?_ : G m4 _ (62, [(0, .inl (.ref q0)), (1, .inl (.int v4_1))], [.inl (.int (-1 : Int32)), .inl (.ref (hr h4 (hr h4 q0 5) v4_1.toNatClampNeg))], h4, 0, 0)))
            refine k_putI HG rfl K4 t9 rfl rfl rfl (fun h10 K10 => (?_ : G m4 _ (65, [(0, .inl (.ref q0)), (1, .inl (.int v4_1))], [], h10, 0, 0)))
            refine k_steps HG 2 (zB_iff.mpr (?_ : G m4 _ (27, [(1, .inl (.int (v4_1 + (1 : Int32)))), (0, .inl (.ref q0))], [], h10, 0, 0)))
            refine k_ext HG (L' := [(0, .inl (.ref q0)), (1, .inl (.int (v4_1 + (1 : Int32))))]) rfl rfl ⟨rfl, rfl, trivial⟩ ?_
            exact ih4 _ _ K10
    refine k_ext HG (L' := [(0, .inl (.ref q0)), (1, .inl (.int (0 : Int32)))]) rfl rfl ⟨rfl, rfl, trivial⟩ ?_
    exact lp4 m (Nat.le_refl _) _ _ K3
  · show G m _ (7, [(0, .inl (.ref q0))], [], h, 0, 0)
    refine k_steps HG 2 (zB_iff.mpr (?_ : G m _ (10, [(0, .inl (.ref q0))], [.inl (.int (-5 : Int32)), .inl (.ref q0)], h, 0, 0)))
    refine k_cVIH HG (E' := ze_X4_refuse) (Or.inl ⟨rfl, rfl⟩) hsc rfl rfl rfl rfl rfl K rfl (fun hh => x_X4_refuse hsc K.1 hq_q0 hh) (fun y11 K11 => (?_ : G m _ (13, [(0, .inl (.ref q0))], [.inl (.int y11.1)], y11.2, 0, 0)))
    exact k_reti HG rfl rfl (fun e1 e2 => hR _ _ e1 e2 K11)
def W_X4_buyer : List (Nat × Nat) := [(1, 14), (16, 1000), (23, 1000)]
noncomputable def F_X4_buyer (h : zH) (q0 : Nat) (a1 : Int32) : Int32 × zH := (letf (F_X4_isWithin a1 (0 : Int32) (9999 : Int32)) (fun y1 => (if y1 = (0 : Int32) then (letf (F_X4_refuse h q0 (-2 : Int32)) (fun y6 => (y6.1, y6.2))) else (if (hv h (hr h q0 0) 14) < (4 : Int32) then (letf (F_X1_addBuyer h (hr h q0 0) a1) (fun y4 => (y4.1, y4.2))) else (letf (F_X4_refuse h q0 (-6 : Int32)) (fun y5 => (y5.1, y5.2)))))))
theorem x_X4_buyer {scr : List zV} {T : List Nat} {h : zH} {q0 : Nat} {a1 : Int32} (hsc : cT scr) (K : hOK kty T h) (hq_q0 : T[q0]? = some 4) (hh : cH h) : xIH scr W_X4_buyer T T 96 [.inl (.ref q0), .inl (.int a1)] h (F_X4_buyer h q0 a1) := by
  refine xIH_intro (E := ze_X4_buyer) hsc rfl (cTb_ok rfl) hh (fun d r h' G HG Pf hR m => ?_)
  have K := kOK_refl (W := W_X4_buyer) K
  unfold F_X4_buyer
  show G m _ (0, [(0, .inl (.ref q0)), (1, .inl (.int a1))], [], h, 0, 0)
  refine k_steps HG 3 (zB_iff.mpr (?_ : G m _ (5, [(0, .inl (.ref q0)), (1, .inl (.int a1))], [.inl (.int (9999 : Int32)), .inl (.int (0 : Int32)), .inl (.int a1)], h, 0, 0)))
  refine k_cSI HG (E' := ze_X4_isWithin) (Or.inl rfl) hsc rfl rfl rfl rfl (fun hh => x_X4_isWithin hsc hh) (fun y1 => (?_ : G m _ (8, [(0, .inl (.ref q0)), (1, .inl (.int a1))], [.inl (.int y1)], h, 0, 0)))
  refine k_steps HG 1 (kb_ne (x := y1) (y := (0 : Int32)) ?_ ?_)
  · show G m _ (18, [(0, .inl (.ref q0)), (1, .inl (.int a1))], [], h, 0, 0)
    refine k_steps HG 1 (zB_iff.mpr (?_ : G m _ (19, [(0, .inl (.ref q0)), (1, .inl (.int a1))], [.inl (.ref q0)], h, 0, 0)))
    refine k_getR HG rfl K hq_q0 rfl (Nat.le_of_ble_eq_true rfl) rfl rfl (fun t2 => (?_ : G m _ (22, [(0, .inl (.ref q0)), (1, .inl (.int a1))], [.inl (.ref (hr h q0 0))], h, 0, 0)))
    refine k_getI HG rfl K t2 rfl (Nat.le_of_ble_eq_true rfl) rfl (?_ : G m _ (25, [(0, .inl (.ref q0)), (1, .inl (.int a1))], [.inl (.int (hv h (hr h q0 0) 14))], h, 0, 0))
    refine k_steps HG 2 (kb_lt (x := (hv h (hr h q0 0) 14)) (y := (4 : Int32)) ?_ ?_)
    · show G m _ (36, [(0, .inl (.ref q0)), (1, .inl (.int a1))], [], h, 0, 0)
      refine k_steps HG 1 (zB_iff.mpr (?_ : G m _ (37, [(0, .inl (.ref q0)), (1, .inl (.int a1))], [.inl (.ref q0)], h, 0, 0)))
      refine k_getR HG rfl K hq_q0 rfl (Nat.le_of_ble_eq_true rfl) rfl rfl (fun t3 => (?_ : G m _ (40, [(0, .inl (.ref q0)), (1, .inl (.int a1))], [.inl (.ref (hr h q0 0))], h, 0, 0)))
      refine k_steps HG 1 (zB_iff.mpr (?_ : G m _ (41, [(0, .inl (.ref q0)), (1, .inl (.int a1))], [.inl (.int a1), .inl (.ref (hr h q0 0))], h, 0, 0)))
      refine k_cVIH HG (E' := ze_X1_addBuyer) (Or.inl ⟨rfl, rfl⟩) hsc rfl rfl rfl rfl rfl K rfl (fun hh => x_X1_addBuyer hsc K.1 t3 hh) (fun y4 K4 => (?_ : G m _ (44, [(0, .inl (.ref q0)), (1, .inl (.int a1))], [.inl (.int y4.1)], y4.2, 0, 0)))
      exact k_reti HG rfl rfl (fun e1 e2 => hR _ _ e1 e2 K4)
    · show G m _ (29, [(0, .inl (.ref q0)), (1, .inl (.int a1))], [], h, 0, 0)
      refine k_steps HG 2 (zB_iff.mpr (?_ : G m _ (32, [(0, .inl (.ref q0)), (1, .inl (.int a1))], [.inl (.int (-6 : Int32)), .inl (.ref q0)], h, 0, 0)))
      refine k_cVIH HG (E' := ze_X4_refuse) (Or.inl ⟨rfl, rfl⟩) hsc rfl rfl rfl rfl rfl K rfl (fun hh => x_X4_refuse hsc K.1 hq_q0 hh) (fun y5 K5 => (?_ : G m _ (35, [(0, .inl (.ref q0)), (1, .inl (.int a1))], [.inl (.int y5.1)], y5.2, 0, 0)))
      exact k_reti HG rfl rfl (fun e1 e2 => hR _ _ e1 e2 K5)
  · show G m _ (11, [(0, .inl (.ref q0)), (1, .inl (.int a1))], [], h, 0, 0)
    refine k_steps HG 2 (zB_iff.mpr (?_ : G m _ (14, [(0, .inl (.ref q0)), (1, .inl (.int a1))], [.inl (.int (-2 : Int32)), .inl (.ref q0)], h, 0, 0)))
    refine k_cVIH HG (E' := ze_X4_refuse) (Or.inl ⟨rfl, rfl⟩) hsc rfl rfl rfl rfl rfl K rfl (fun hh => x_X4_refuse hsc K.1 hq_q0 hh) (fun y6 K6 => (?_ : G m _ (17, [(0, .inl (.ref q0)), (1, .inl (.int a1))], [.inl (.int y6.1)], y6.2, 0, 0)))
    exact k_reti HG rfl rfl (fun e1 e2 => hR _ _ e1 e2 K6)
def W_X4_dearest : List (Nat × Nat) := [(23, 1000)]
noncomputable def B_X4_dearest_22 (h : zH) (c0 : Nat) (c1 : Int32) (s : (Int32 × Int32)) : (Int32 × Int32) ⊕ (Int32 × zH) := (if s.2 < (hv h (hr h c0 0) 8) then (if s.1 = (-1 : Int32) then (letf (F_X1_stands h (hr h c0 0) s.2) (fun y1003 => (if y1003 = (0 : Int32) then (Sum.inl (s.1, (s.2 + (1 : Int32)))) else (Sum.inl (s.2, (s.2 + (1 : Int32))))))) else (letf (F_X1_liking h (hr h c0 0) c1 s.2) (fun y1005 => (letf (F_X1_liking h (hr h c0 0) c1 s.1) (fun y1007 => (if y1007 < y1005 then (letf (F_X1_stands h (hr h c0 0) s.2) (fun y1011 => (if y1011 = (0 : Int32) then (Sum.inl (s.1, (s.2 + (1 : Int32)))) else (Sum.inl (s.2, (s.2 + (1 : Int32))))))) else (letf (F_X1_stands h (hr h c0 0) s.2) (fun y1009 => (if y1009 = (0 : Int32) then (Sum.inl (s.1, (s.2 + (1 : Int32)))) else (Sum.inl (s.1, (s.2 + (1 : Int32))))))))))))) else (Sum.inr (s.1, h)))
noncomputable def F_X4_dearest (h : zH) (q0 : Nat) (a1 : Int32) : Int32 × zH := (letf (F_X1_isBuyer h (hr h q0 0) a1) (fun y2 => (if y2 = (0 : Int32) then (letf (F_X4_refuse h q0 (-2 : Int32)) (fun y15 => (y15.1, y15.2))) else (fx (B_X4_dearest_22 h q0 a1) (0, []) ((-1 : Int32), (0 : Int32))))))
theorem x_X4_dearest {scr : List zV} {T : List Nat} {h : zH} {q0 : Nat} {a1 : Int32} (hsc : cT scr) (K : hOK kty T h) (hq_q0 : T[q0]? = some 4) (hh : cH h) : xIH scr W_X4_dearest T T 101 [.inl (.ref q0), .inl (.int a1)] h (F_X4_dearest h q0 a1) := by
  refine xIH_intro (E := ze_X4_dearest) hsc rfl (cTb_ok rfl) hh (fun d r h' G HG Pf hR m => ?_)
  have K := kOK_refl (W := W_X4_dearest) K
  unfold F_X4_dearest
  show G m _ (0, [(0, .inl (.ref q0)), (1, .inl (.int a1))], [], h, 0, 0)
  refine k_steps HG 1 (zB_iff.mpr (?_ : G m _ (1, [(0, .inl (.ref q0)), (1, .inl (.int a1))], [.inl (.ref q0)], h, 0, 0)))
  refine k_getR HG rfl K hq_q0 rfl (Nat.le_of_ble_eq_true rfl) rfl rfl (fun t1 => (?_ : G m _ (4, [(0, .inl (.ref q0)), (1, .inl (.int a1))], [.inl (.ref (hr h q0 0))], h, 0, 0)))
  refine k_steps HG 1 (zB_iff.mpr (?_ : G m _ (5, [(0, .inl (.ref q0)), (1, .inl (.int a1))], [.inl (.int a1), .inl (.ref (hr h q0 0))], h, 0, 0)))
  refine k_cVI HG (E' := ze_X1_isBuyer) (Or.inl ⟨rfl, rfl⟩) hsc rfl rfl rfl rfl rfl (fun hh => x_X1_isBuyer hsc K.1 t1 hh) (fun y2 => (?_ : G m _ (8, [(0, .inl (.ref q0)), (1, .inl (.int a1))], [.inl (.int y2)], h, 0, 0)))
  refine k_steps HG 1 (kb_ne (x := y2) (y := (0 : Int32)) ?_ ?_)
  · show G m _ (18, [(0, .inl (.ref q0)), (1, .inl (.int a1))], [], h, 0, 0)
    refine k_steps HG 4 (zB_iff.mpr (?_ : G m _ (22, [(3, .inl (.int (0 : Int32))), (2, .inl (.int (-1 : Int32))), (0, .inl (.ref q0)), (1, .inl (.int a1))], [], h, 0, 0)))
    have lp3 : ∀ m3, m3 ≤ m → ∀ (d3_4 : Int32) (v3_2 : Int32) (v3_3 : Int32), G m3 (Pf (fx (B_X4_dearest_22 h q0 a1) (0, []) (v3_2, v3_3))) (22, [(0, .inl (.ref q0)), (1, .inl (.int a1)), (2, .inl (.int v3_2)), (3, .inl (.int v3_3)), (4, .inl (.int d3_4))], [], h, 0, 0) := by
      intro m3
      induction m3 with
      | zero =>
        intros
        exact k_zero HG
      | succ m3 ih3 =>
        intro le3 d3_4 v3_2 v3_3
        have le3 := Nat.le_of_succ_le le3
        have ih3 := ih3 le3
        refine k_fx ?_
        rw [B_X4_dearest_22]
        refine k_first HG 1 (zB_iff.mpr (?_ : G m3 _ (24, [(0, .inl (.ref q0)), (1, .inl (.int a1)), (2, .inl (.int v3_2)), (3, .inl (.int v3_3)), (4, .inl (.int d3_4))], [.inl (.ref q0), .inl (.int v3_3)], h, 0, 0)))
        refine k_getR HG rfl K hq_q0 rfl (Nat.le_of_ble_eq_true rfl) rfl rfl (fun t4 => (?_ : G m3 _ (27, [(0, .inl (.ref q0)), (1, .inl (.int a1)), (2, .inl (.int v3_2)), (3, .inl (.int v3_3)), (4, .inl (.int d3_4))], [.inl (.ref (hr h q0 0)), .inl (.int v3_3)], h, 0, 0)))
        refine k_getI HG rfl K t4 rfl (Nat.le_of_ble_eq_true rfl) rfl (?_ : G m3 _ (30, [(0, .inl (.ref q0)), (1, .inl (.int a1)), (2, .inl (.int v3_2)), (3, .inl (.int v3_3)), (4, .inl (.int d3_4))], [.inl (.int (hv h (hr h q0 0) 8)), .inl (.int v3_3)], h, 0, 0))
        refine k_steps HG 1 (kb_ge (x := v3_3) (y := (hv h (hr h q0 0) 8)) ?_ ?_)
        · show G m3 _ (90, [(0, .inl (.ref q0)), (1, .inl (.int a1)), (2, .inl (.int v3_2)), (3, .inl (.int v3_3)), (4, .inl (.int d3_4))], [], h, 0, 0)
          refine k_steps HG 1 (zB_iff.mpr (?_ : G m3 _ (91, [(0, .inl (.ref q0)), (1, .inl (.int a1)), (2, .inl (.int v3_2)), (3, .inl (.int v3_3)), (4, .inl (.int d3_4))], [.inl (.int v3_2)], h, 0, 0)))
          exact k_reti HG rfl rfl (fun e1 e2 => hR _ _ e1 e2 K)
        · show G m3 _ (33, [(0, .inl (.ref q0)), (1, .inl (.int a1)), (2, .inl (.int v3_2)), (3, .inl (.int v3_3)), (4, .inl (.int d3_4))], [], h, 0, 0)
          refine k_steps HG 3 (kb_eq (x := v3_2) (y := (-1 : Int32)) ?_ ?_)
          · show G m3 _ (59, [(0, .inl (.ref q0)), (1, .inl (.int a1)), (2, .inl (.int v3_2)), (3, .inl (.int v3_3)), (4, .inl (.int d3_4))], [], h, 0, 0)
            refine k_steps HG 4 (zB_iff.mpr (?_ : G m3 _ (67, [(4, .inl (.int (1 : Int32))), (0, .inl (.ref q0)), (1, .inl (.int a1)), (2, .inl (.int v3_2)), (3, .inl (.int v3_3))], [.inl (.ref q0)], h, 0, 0)))
            refine k_getR HG rfl K hq_q0 rfl (Nat.le_of_ble_eq_true rfl) rfl rfl (fun t5 => (?_ : G m3 _ (70, [(4, .inl (.int (1 : Int32))), (0, .inl (.ref q0)), (1, .inl (.int a1)), (2, .inl (.int v3_2)), (3, .inl (.int v3_3))], [.inl (.ref (hr h q0 0))], h, 0, 0)))
            refine k_steps HG 1 (zB_iff.mpr (?_ : G m3 _ (71, [(4, .inl (.int (1 : Int32))), (0, .inl (.ref q0)), (1, .inl (.int a1)), (2, .inl (.int v3_2)), (3, .inl (.int v3_3))], [.inl (.int v3_3), .inl (.ref (hr h q0 0))], h, 0, 0)))
            refine k_cVI HG (E' := ze_X1_stands) (Or.inl ⟨rfl, rfl⟩) hsc rfl rfl rfl rfl rfl (fun hh => x_X1_stands hsc K.1 t5 hh) (fun y6 => (?_ : G m3 _ (74, [(4, .inl (.int (1 : Int32))), (0, .inl (.ref q0)), (1, .inl (.int a1)), (2, .inl (.int v3_2)), (3, .inl (.int v3_3))], [.inl (.int y6)], h, 0, 0)))
            refine k_steps HG 1 (kb_eq (x := y6) (y := (0 : Int32)) ?_ ?_)
            · show G m3 _ (84, [(4, .inl (.int (1 : Int32))), (0, .inl (.ref q0)), (1, .inl (.int a1)), (2, .inl (.int v3_2)), (3, .inl (.int v3_3))], [], h, 0, 0)
              refine k_steps HG 2 (zB_iff.mpr (?_ : G m3 _ (22, [(3, .inl (.int (v3_3 + (1 : Int32)))), (4, .inl (.int (1 : Int32))), (0, .inl (.ref q0)), (1, .inl (.int a1)), (2, .inl (.int v3_2))], [], h, 0, 0)))
              refine k_ext HG (L' := [(0, .inl (.ref q0)), (1, .inl (.int a1)), (2, .inl (.int v3_2)), (3, .inl (.int (v3_3 + (1 : Int32)))), (4, .inl (.int (1 : Int32)))]) rfl rfl ⟨rfl, rfl, rfl, rfl, rfl, trivial⟩ ?_
              exact ih3 _ _ _
            · show G m3 _ (77, [(4, .inl (.int (1 : Int32))), (0, .inl (.ref q0)), (1, .inl (.int a1)), (2, .inl (.int v3_2)), (3, .inl (.int v3_3))], [], h, 0, 0)
              refine k_steps HG 6 (zB_iff.mpr (?_ : G m3 _ (22, [(3, .inl (.int (v3_3 + (1 : Int32)))), (2, .inl (.int v3_3)), (4, .inl (.int (1 : Int32))), (0, .inl (.ref q0)), (1, .inl (.int a1))], [], h, 0, 0)))
              refine k_ext HG (L' := [(0, .inl (.ref q0)), (1, .inl (.int a1)), (2, .inl (.int v3_3)), (3, .inl (.int (v3_3 + (1 : Int32)))), (4, .inl (.int (1 : Int32)))]) rfl rfl ⟨rfl, rfl, rfl, rfl, rfl, trivial⟩ ?_
              exact ih3 _ _ _
          · show G m3 _ (38, [(0, .inl (.ref q0)), (1, .inl (.int a1)), (2, .inl (.int v3_2)), (3, .inl (.int v3_3)), (4, .inl (.int d3_4))], [], h, 0, 0)
            refine k_steps HG 1 (zB_iff.mpr (?_ : G m3 _ (39, [(0, .inl (.ref q0)), (1, .inl (.int a1)), (2, .inl (.int v3_2)), (3, .inl (.int v3_3)), (4, .inl (.int d3_4))], [.inl (.ref q0)], h, 0, 0)))
            refine k_getR HG rfl K hq_q0 rfl (Nat.le_of_ble_eq_true rfl) rfl rfl (fun t7 => (?_ : G m3 _ (42, [(0, .inl (.ref q0)), (1, .inl (.int a1)), (2, .inl (.int v3_2)), (3, .inl (.int v3_3)), (4, .inl (.int d3_4))], [.inl (.ref (hr h q0 0))], h, 0, 0)))
            refine k_steps HG 2 (zB_iff.mpr (?_ : G m3 _ (44, [(0, .inl (.ref q0)), (1, .inl (.int a1)), (2, .inl (.int v3_2)), (3, .inl (.int v3_3)), (4, .inl (.int d3_4))], [.inl (.int v3_3), .inl (.int a1), .inl (.ref (hr h q0 0))], h, 0, 0)))
            refine k_cVI HG (E' := ze_X1_liking) (Or.inl ⟨rfl, rfl⟩) hsc rfl rfl rfl rfl rfl (fun hh => x_X1_liking hsc K.1 t7 hh) (fun y8 => (?_ : G m3 _ (47, [(0, .inl (.ref q0)), (1, .inl (.int a1)), (2, .inl (.int v3_2)), (3, .inl (.int v3_3)), (4, .inl (.int d3_4))], [.inl (.int y8)], h, 0, 0)))
            refine k_steps HG 1 (zB_iff.mpr (?_ : G m3 _ (48, [(0, .inl (.ref q0)), (1, .inl (.int a1)), (2, .inl (.int v3_2)), (3, .inl (.int v3_3)), (4, .inl (.int d3_4))], [.inl (.ref q0), .inl (.int y8)], h, 0, 0)))
            refine k_getR HG rfl K hq_q0 rfl (Nat.le_of_ble_eq_true rfl) rfl rfl (fun t9 => (?_ : G m3 _ (51, [(0, .inl (.ref q0)), (1, .inl (.int a1)), (2, .inl (.int v3_2)), (3, .inl (.int v3_3)), (4, .inl (.int d3_4))], [.inl (.ref (hr h q0 0)), .inl (.int y8)], h, 0, 0)))
            refine k_steps HG 2 (zB_iff.mpr (?_ : G m3 _ (53, [(0, .inl (.ref q0)), (1, .inl (.int a1)), (2, .inl (.int v3_2)), (3, .inl (.int v3_3)), (4, .inl (.int d3_4))], [.inl (.int v3_2), .inl (.int a1), .inl (.ref (hr h q0 0)), .inl (.int y8)], h, 0, 0)))
            refine k_cVI HG (E' := ze_X1_liking) (Or.inl ⟨rfl, rfl⟩) hsc rfl rfl rfl rfl rfl (fun hh => x_X1_liking hsc K.1 t9 hh) (fun y10 => (?_ : G m3 _ (56, [(0, .inl (.ref q0)), (1, .inl (.int a1)), (2, .inl (.int v3_2)), (3, .inl (.int v3_3)), (4, .inl (.int d3_4))], [.inl (.int y10), .inl (.int y8)], h, 0, 0)))
            refine k_steps HG 1 (kb_le (x := y8) (y := y10) ?_ ?_)
            · show G m3 _ (63, [(0, .inl (.ref q0)), (1, .inl (.int a1)), (2, .inl (.int v3_2)), (3, .inl (.int v3_3)), (4, .inl (.int d3_4))], [], h, 0, 0)
              refine k_steps HG 3 (zB_iff.mpr (?_ : G m3 _ (67, [(4, .inl (.int (0 : Int32))), (0, .inl (.ref q0)), (1, .inl (.int a1)), (2, .inl (.int v3_2)), (3, .inl (.int v3_3))], [.inl (.ref q0)], h, 0, 0)))
              refine k_getR HG rfl K hq_q0 rfl (Nat.le_of_ble_eq_true rfl) rfl rfl (fun t11 => (?_ : G m3 _ (70, [(4, .inl (.int (0 : Int32))), (0, .inl (.ref q0)), (1, .inl (.int a1)), (2, .inl (.int v3_2)), (3, .inl (.int v3_3))], [.inl (.ref (hr h q0 0))], h, 0, 0)))
              refine k_steps HG 1 (zB_iff.mpr (?_ : G m3 _ (71, [(4, .inl (.int (0 : Int32))), (0, .inl (.ref q0)), (1, .inl (.int a1)), (2, .inl (.int v3_2)), (3, .inl (.int v3_3))], [.inl (.int v3_3), .inl (.ref (hr h q0 0))], h, 0, 0)))
              refine k_cVI HG (E' := ze_X1_stands) (Or.inl ⟨rfl, rfl⟩) hsc rfl rfl rfl rfl rfl (fun hh => x_X1_stands hsc K.1 t11 hh) (fun y12 => (?_ : G m3 _ (74, [(4, .inl (.int (0 : Int32))), (0, .inl (.ref q0)), (1, .inl (.int a1)), (2, .inl (.int v3_2)), (3, .inl (.int v3_3))], [.inl (.int y12)], h, 0, 0)))
              refine k_steps HG 1 (kb_eq (x := y12) (y := (0 : Int32)) ?_ ?_)
              · show G m3 _ (84, [(4, .inl (.int (0 : Int32))), (0, .inl (.ref q0)), (1, .inl (.int a1)), (2, .inl (.int v3_2)), (3, .inl (.int v3_3))], [], h, 0, 0)
                refine k_steps HG 2 (zB_iff.mpr (?_ : G m3 _ (22, [(3, .inl (.int (v3_3 + (1 : Int32)))), (4, .inl (.int (0 : Int32))), (0, .inl (.ref q0)), (1, .inl (.int a1)), (2, .inl (.int v3_2))], [], h, 0, 0)))
                refine k_ext HG (L' := [(0, .inl (.ref q0)), (1, .inl (.int a1)), (2, .inl (.int v3_2)), (3, .inl (.int (v3_3 + (1 : Int32)))), (4, .inl (.int (0 : Int32)))]) rfl rfl ⟨rfl, rfl, rfl, rfl, rfl, trivial⟩ ?_
                exact ih3 _ _ _
              · show G m3 _ (77, [(4, .inl (.int (0 : Int32))), (0, .inl (.ref q0)), (1, .inl (.int a1)), (2, .inl (.int v3_2)), (3, .inl (.int v3_3))], [], h, 0, 0)
                refine k_steps HG 4 (zB_iff.mpr (?_ : G m3 _ (22, [(3, .inl (.int (v3_3 + (1 : Int32)))), (4, .inl (.int (0 : Int32))), (0, .inl (.ref q0)), (1, .inl (.int a1)), (2, .inl (.int v3_2))], [], h, 0, 0)))
                refine k_ext HG (L' := [(0, .inl (.ref q0)), (1, .inl (.int a1)), (2, .inl (.int v3_2)), (3, .inl (.int (v3_3 + (1 : Int32)))), (4, .inl (.int (0 : Int32)))]) rfl rfl ⟨rfl, rfl, rfl, rfl, rfl, trivial⟩ ?_
                exact ih3 _ _ _
            · show G m3 _ (59, [(0, .inl (.ref q0)), (1, .inl (.int a1)), (2, .inl (.int v3_2)), (3, .inl (.int v3_3)), (4, .inl (.int d3_4))], [], h, 0, 0)
              refine k_steps HG 4 (zB_iff.mpr (?_ : G m3 _ (67, [(4, .inl (.int (1 : Int32))), (0, .inl (.ref q0)), (1, .inl (.int a1)), (2, .inl (.int v3_2)), (3, .inl (.int v3_3))], [.inl (.ref q0)], h, 0, 0)))
              refine k_getR HG rfl K hq_q0 rfl (Nat.le_of_ble_eq_true rfl) rfl rfl (fun t13 => (?_ : G m3 _ (70, [(4, .inl (.int (1 : Int32))), (0, .inl (.ref q0)), (1, .inl (.int a1)), (2, .inl (.int v3_2)), (3, .inl (.int v3_3))], [.inl (.ref (hr h q0 0))], h, 0, 0)))
              refine k_steps HG 1 (zB_iff.mpr (?_ : G m3 _ (71, [(4, .inl (.int (1 : Int32))), (0, .inl (.ref q0)), (1, .inl (.int a1)), (2, .inl (.int v3_2)), (3, .inl (.int v3_3))], [.inl (.int v3_3), .inl (.ref (hr h q0 0))], h, 0, 0)))
              refine k_cVI HG (E' := ze_X1_stands) (Or.inl ⟨rfl, rfl⟩) hsc rfl rfl rfl rfl rfl (fun hh => x_X1_stands hsc K.1 t13 hh) (fun y14 => (?_ : G m3 _ (74, [(4, .inl (.int (1 : Int32))), (0, .inl (.ref q0)), (1, .inl (.int a1)), (2, .inl (.int v3_2)), (3, .inl (.int v3_3))], [.inl (.int y14)], h, 0, 0)))
              refine k_steps HG 1 (kb_eq (x := y14) (y := (0 : Int32)) ?_ ?_)
              · show G m3 _ (84, [(4, .inl (.int (1 : Int32))), (0, .inl (.ref q0)), (1, .inl (.int a1)), (2, .inl (.int v3_2)), (3, .inl (.int v3_3))], [], h, 0, 0)
                refine k_steps HG 2 (zB_iff.mpr (?_ : G m3 _ (22, [(3, .inl (.int (v3_3 + (1 : Int32)))), (4, .inl (.int (1 : Int32))), (0, .inl (.ref q0)), (1, .inl (.int a1)), (2, .inl (.int v3_2))], [], h, 0, 0)))
                refine k_ext HG (L' := [(0, .inl (.ref q0)), (1, .inl (.int a1)), (2, .inl (.int v3_2)), (3, .inl (.int (v3_3 + (1 : Int32)))), (4, .inl (.int (1 : Int32)))]) rfl rfl ⟨rfl, rfl, rfl, rfl, rfl, trivial⟩ ?_
                exact ih3 _ _ _
              · show G m3 _ (77, [(4, .inl (.int (1 : Int32))), (0, .inl (.ref q0)), (1, .inl (.int a1)), (2, .inl (.int v3_2)), (3, .inl (.int v3_3))], [], h, 0, 0)
                refine k_steps HG 6 (zB_iff.mpr (?_ : G m3 _ (22, [(3, .inl (.int (v3_3 + (1 : Int32)))), (2, .inl (.int v3_3)), (4, .inl (.int (1 : Int32))), (0, .inl (.ref q0)), (1, .inl (.int a1))], [], h, 0, 0)))
                refine k_ext HG (L' := [(0, .inl (.ref q0)), (1, .inl (.int a1)), (2, .inl (.int v3_3)), (3, .inl (.int (v3_3 + (1 : Int32)))), (4, .inl (.int (1 : Int32)))]) rfl rfl ⟨rfl, rfl, rfl, rfl, rfl, trivial⟩ ?_
                exact ih3 _ _ _
    refine k_ext HG (L' := [(0, .inl (.ref q0)), (1, .inl (.int a1)), (2, .inl (.int (-1 : Int32))), (3, .inl (.int (0 : Int32))), (4, .inl (.int (0 : Int32)))]) rfl rfl ⟨rfl, rfl, rfl, rfl, trivial⟩ ?_
    exact lp3 m (Nat.le_refl _) _ _ _
  · show G m _ (11, [(0, .inl (.ref q0)), (1, .inl (.int a1))], [], h, 0, 0)
    refine k_steps HG 2 (zB_iff.mpr (?_ : G m _ (14, [(0, .inl (.ref q0)), (1, .inl (.int a1))], [.inl (.int (-2 : Int32)), .inl (.ref q0)], h, 0, 0)))
    refine k_cVIH HG (E' := ze_X4_refuse) (Or.inl ⟨rfl, rfl⟩) hsc rfl rfl rfl rfl rfl K rfl (fun hh => x_X4_refuse hsc K.1 hq_q0 hh) (fun y15 K15 => (?_ : G m _ (17, [(0, .inl (.ref q0)), (1, .inl (.int a1))], [.inl (.int y15.1)], y15.2, 0, 0)))
    exact k_reti HG rfl rfl (fun e1 e2 => hR _ _ e1 e2 K15)
