def W_X3_thinkOfGoes : List (Nat × Nat) := [(3, 3), (3, 4), (3, 5), (3, 6), (19, 1000), (20, 1000), (21, 1000)]
noncomputable def F_X3_thinkOfGoes (h : zH) (q0 : Nat) (q1 : Nat) (a2 : Int32) (a3 : Int32) : zH := (letf (F_X1_countIn h q1) (fun y1 => (letf (F_X3_fill h q0 q1 a2 (jmin a3 y1) (0 : Int32)) (fun h2 => h2))))
theorem x_X3_thinkOfGoes {scr : List zV} {T : List Nat} {h : zH} {q0 : Nat} {q1 : Nat} {a2 : Int32} {a3 : Int32} (hsc : cT scr) (K : hOK kty T h) (hq_q0 : T[q0]? = some 3) (hq_q1 : T[q1]? = some 1) (hh : cH h) : xH scr W_X3_thinkOfGoes T T 85 [.inl (.ref q0), .inl (.ref q1), .inl (.int a2), .inl (.int a3)] h (F_X3_thinkOfGoes h q0 q1 a2 a3) := by
  refine xH_intro (E := ze_X3_thinkOfGoes) hsc rfl (cTb_ok rfl) hh (fun d r h' G HG Pf hR m => ?_)
  have K := kOK_refl (W := W_X3_thinkOfGoes) K
  unfold F_X3_thinkOfGoes
  show G m _ (0, [(0, .inl (.ref q0)), (1, .inl (.ref q1)), (2, .inl (.int a2)), (3, .inl (.int a3))], [], h, 0, 0)
  refine k_steps HG 5 (zB_iff.mpr (?_ : G m _ (5, [(0, .inl (.ref q0)), (1, .inl (.ref q1)), (2, .inl (.int a2)), (3, .inl (.int a3))], [.inl (.ref q1), .inl (.int a3), .inl (.int a2), .inl (.ref q1), .inl (.ref q0)], h, 0, 0)))
  refine k_cVI HG (E' := ze_X1_countIn) (Or.inl ⟨rfl, rfl⟩) hsc rfl rfl rfl rfl rfl (fun hh => x_X1_countIn hsc K.1 hq_q1 hh) (fun y1 => (?_ : G m _ (8, [(0, .inl (.ref q0)), (1, .inl (.ref q1)), (2, .inl (.int a2)), (3, .inl (.int a3))], [.inl (.int y1), .inl (.int a3), .inl (.int a2), .inl (.ref q1), .inl (.ref q0)], h, 0, 0)))
  refine k_steps HG 2 (zB_iff.mpr (?_ : G m _ (12, [(0, .inl (.ref q0)), (1, .inl (.ref q1)), (2, .inl (.int a2)), (3, .inl (.int a3))], [.inl (.int (0 : Int32)), .inl (.int (jmin a3 y1)), .inl (.int a2), .inl (.ref q1), .inl (.ref q0)], h, 0, 0)))
  refine k_cVH HG (E' := ze_X3_fill) (Or.inl ⟨rfl, rfl⟩) hsc rfl rfl rfl rfl rfl K rfl (fun hh => x_X3_fill hsc K.1 hq_q0 hq_q1 hh) (fun h2 K2 => (?_ : G m _ (15, [(0, .inl (.ref q0)), (1, .inl (.ref q1)), (2, .inl (.int a2)), (3, .inl (.int a3))], [], h2, 0, 0)))
  exact k_retv HG rfl rfl (fun e1 e2 => hR _ e1 e2 K2)
noncomputable def B_X4_bestPrice_14 (h : zH) (c0 : Nat) (s : (Int32 × Int32 × Int32)) : (Int32 × Int32 × Int32) ⊕ (Int32) := (if (95 : Int32) < s.2.2 then (Sum.inr s.1) else (letf (F_X1_takingsAt h (hr h c0 0) s.2.2) (fun y1002 => (if s.2.1 < y1002 then (Sum.inl (s.2.2, y1002, (s.2.2 + (5 : Int32)))) else (Sum.inl (s.1, s.2.1, (s.2.2 + (5 : Int32))))))))
noncomputable def F_X4_bestPrice (h : zH) (q0 : Nat) : Int32 := (letf (F_X1_takingsAt h (hr h q0 0) (5 : Int32)) (fun y2 => (fx (B_X4_bestPrice_14 h q0) 0 ((5 : Int32), y2, (10 : Int32)))))
theorem x_X4_bestPrice {scr : List zV} {T : List Nat} {h : zH} {q0 : Nat} (hsc : cT scr) (K : hOK kty T h) (hq_q0 : T[q0]? = some 4) (hh : cH h) : xI scr 94 [.inl (.ref q0)] h (F_X4_bestPrice h q0) := by
  refine xI_intro (E := ze_X4_bestPrice) hsc rfl (cTb_ok rfl) hh (fun d r h' G HG Pf hR m => ?_)
  have K := kOK_refl (W := []) K
  unfold F_X4_bestPrice
  show G m _ (0, [(0, .inl (.ref q0))], [], h, 0, 0)
  refine k_steps HG 3 (zB_iff.mpr (?_ : G m _ (3, [(1, .inl (.int (5 : Int32))), (0, .inl (.ref q0))], [.inl (.ref q0)], h, 0, 0)))
  refine k_getR HG rfl K hq_q0 rfl (Nat.le_of_ble_eq_true rfl) rfl rfl (fun t1 => (?_ : G m _ (6, [(1, .inl (.int (5 : Int32))), (0, .inl (.ref q0))], [.inl (.ref (hr h q0 0))], h, 0, 0)))
  refine k_steps HG 1 (zB_iff.mpr (?_ : G m _ (7, [(1, .inl (.int (5 : Int32))), (0, .inl (.ref q0))], [.inl (.int (5 : Int32)), .inl (.ref (hr h q0 0))], h, 0, 0)))
  refine k_cVI HG (E' := ze_X1_takingsAt) (Or.inl ⟨rfl, rfl⟩) hsc rfl rfl rfl rfl rfl (fun hh => x_X1_takingsAt hsc K.1 t1 hh) (fun y2 => (?_ : G m _ (10, [(1, .inl (.int (5 : Int32))), (0, .inl (.ref q0))], [.inl (.int y2)], h, 0, 0)))
  refine k_steps HG 3 (zB_iff.mpr (?_ : G m _ (14, [(3, .inl (.int (10 : Int32))), (2, .inl (.int y2)), (1, .inl (.int (5 : Int32))), (0, .inl (.ref q0))], [], h, 0, 0)))
  have lp3 : ∀ m3, m3 ≤ m → ∀ (d3_4 : Int32) (v3_1 : Int32) (v3_2 : Int32) (v3_3 : Int32), G m3 (Pf (fx (B_X4_bestPrice_14 h q0) 0 (v3_1, v3_2, v3_3))) (14, [(0, .inl (.ref q0)), (1, .inl (.int v3_1)), (2, .inl (.int v3_2)), (3, .inl (.int v3_3)), (4, .inl (.int d3_4))], [], h, 0, 0) := by
    intro m3
    induction m3 with
    | zero =>
      intros
      exact k_zero HG
    | succ m3 ih3 =>
      intro le3 d3_4 v3_1 v3_2 v3_3
      have le3 := Nat.le_of_succ_le le3
      have ih3 := ih3 le3
      refine k_fx ?_
      rw [B_X4_bestPrice_14]
      refine k_first HG 2 (kb_gt (x := v3_3) (y := (95 : Int32)) ?_ ?_)
      · show G m3 _ (47, [(0, .inl (.ref q0)), (1, .inl (.int v3_1)), (2, .inl (.int v3_2)), (3, .inl (.int v3_3)), (4, .inl (.int d3_4))], [], h, 0, 0)
        refine k_steps HG 1 (zB_iff.mpr (?_ : G m3 _ (48, [(0, .inl (.ref q0)), (1, .inl (.int v3_1)), (2, .inl (.int v3_2)), (3, .inl (.int v3_3)), (4, .inl (.int d3_4))], [.inl (.int v3_1)], h, 0, 0)))
        exact k_reti HG rfl rfl (fun e1 e2 => hR _ e1 e2)
      · show G m3 _ (20, [(0, .inl (.ref q0)), (1, .inl (.int v3_1)), (2, .inl (.int v3_2)), (3, .inl (.int v3_3)), (4, .inl (.int d3_4))], [], h, 0, 0)
        refine k_steps HG 1 (zB_iff.mpr (?_ : G m3 _ (21, [(0, .inl (.ref q0)), (1, .inl (.int v3_1)), (2, .inl (.int v3_2)), (3, .inl (.int v3_3)), (4, .inl (.int d3_4))], [.inl (.ref q0)], h, 0, 0)))
        refine k_getR HG rfl K hq_q0 rfl (Nat.le_of_ble_eq_true rfl) rfl rfl (fun t4 => (?_ : G m3 _ (24, [(0, .inl (.ref q0)), (1, .inl (.int v3_1)), (2, .inl (.int v3_2)), (3, .inl (.int v3_3)), (4, .inl (.int d3_4))], [.inl (.ref (hr h q0 0))], h, 0, 0)))
        refine k_steps HG 1 (zB_iff.mpr (?_ : G m3 _ (25, [(0, .inl (.ref q0)), (1, .inl (.int v3_1)), (2, .inl (.int v3_2)), (3, .inl (.int v3_3)), (4, .inl (.int d3_4))], [.inl (.int v3_3), .inl (.ref (hr h q0 0))], h, 0, 0)))
        refine k_cVI HG (E' := ze_X1_takingsAt) (Or.inl ⟨rfl, rfl⟩) hsc rfl rfl rfl rfl rfl (fun hh => x_X1_takingsAt hsc K.1 t4 hh) (fun y5 => (?_ : G m3 _ (28, [(0, .inl (.ref q0)), (1, .inl (.int v3_1)), (2, .inl (.int v3_2)), (3, .inl (.int v3_3)), (4, .inl (.int d3_4))], [.inl (.int y5)], h, 0, 0)))
        refine k_steps HG 4 (kb_le (x := y5) (y := v3_2) ?_ ?_)
        · show G m3 _ (41, [(4, .inl (.int y5)), (0, .inl (.ref q0)), (1, .inl (.int v3_1)), (2, .inl (.int v3_2)), (3, .inl (.int v3_3))], [], h, 0, 0)
          refine k_steps HG 2 (zB_iff.mpr (?_ : G m3 _ (14, [(3, .inl (.int (v3_3 + (5 : Int32)))), (4, .inl (.int y5)), (0, .inl (.ref q0)), (1, .inl (.int v3_1)), (2, .inl (.int v3_2))], [], h, 0, 0)))
          refine k_ext HG (L' := [(0, .inl (.ref q0)), (1, .inl (.int v3_1)), (2, .inl (.int v3_2)), (3, .inl (.int (v3_3 + (5 : Int32)))), (4, .inl (.int y5))]) rfl rfl ⟨rfl, rfl, rfl, rfl, rfl, trivial⟩ ?_
          exact ih3 _ _ _ _
        · show G m3 _ (36, [(4, .inl (.int y5)), (0, .inl (.ref q0)), (1, .inl (.int v3_1)), (2, .inl (.int v3_2)), (3, .inl (.int v3_3))], [], h, 0, 0)
          refine k_steps HG 6 (zB_iff.mpr (?_ : G m3 _ (14, [(3, .inl (.int (v3_3 + (5 : Int32)))), (1, .inl (.int v3_3)), (2, .inl (.int y5)), (4, .inl (.int y5)), (0, .inl (.ref q0))], [], h, 0, 0)))
          refine k_ext HG (L' := [(0, .inl (.ref q0)), (1, .inl (.int v3_3)), (2, .inl (.int y5)), (3, .inl (.int (v3_3 + (5 : Int32)))), (4, .inl (.int y5))]) rfl rfl ⟨rfl, rfl, rfl, rfl, rfl, trivial⟩ ?_
          exact ih3 _ _ _ _
  refine k_ext HG (L' := [(0, .inl (.ref q0)), (1, .inl (.int (5 : Int32))), (2, .inl (.int y2)), (3, .inl (.int (10 : Int32))), (4, .inl (.int (0 : Int32)))]) rfl rfl ⟨rfl, rfl, rfl, rfl, trivial⟩ ?_
  exact lp3 m (Nat.le_refl _) _ _ _ _
def W_X4_booked : List (Nat × Nat) := [(1, 0), (1, 1), (1, 2), (1, 3), (1, 4), (1, 5), (1, 6), (1, 7), (1, 8), (1, 14), (11, 1000), (12, 1000), (13, 1000), (14, 1000), (15, 1000), (16, 1000), (17, 1000), (23, 1000)]
noncomputable def F_X4_booked (h : zH) (q0 : Nat) (a1 : Int32) (a2 : Int32) (a3 : Int32) : Int32 × zH := (letf (F_X1_isBuyer h (hr h q0 0) a3) (fun y2 => (if y2 = (0 : Int32) then (letf (F_X4_refuse h q0 (-2 : Int32)) (fun y20 => (y20.1, y20.2))) else (letf (F_X4_lackOfBook h q0 a1 a2) (fun y3 => (if y3 = (0 : Int32) then (if (hv h (hr h (hr h q0 0) 15) a3.toNatClampNeg) < (a2 * (hv h (hr h q0 0) 2)) then (letf (F_X4_refuse h q0 (-5 : Int32)) (fun y7 => (y7.1, y7.2))) else (letf (F_X4_firstWrong h q0 a1 a2 a3) (fun y8 => (if y8.1 = (-1 : Int32) then (letf (F_X1_standing y8.2 (hr y8.2 q0 0)) (fun y10 => (letf (F_X1_standing y8.2 (hr y8.2 q0 2)) (fun y12 => (letf (F_X1_pay y8.2 (hr y8.2 q0 2) a3 (a2 * (hv h (hr h q0 0) 2))) (fun h14 => (letf (F_X1_become h14 (hr h14 q0 0) (hr h14 q0 2)) (fun h17 => ((y10 &&& (y12 ^^^ (-1 : Int32))), h17))))))))) else (letf (F_X4_refuse y8.2 q0 (-5 : Int32)) (fun y18 => (y18.1, y18.2))))))) else (letf (F_X4_refuse h q0 y3) (fun y19 => (y19.1, y19.2)))))))))
theorem x_X4_booked {scr : List zV} {T : List Nat} {h : zH} {q0 : Nat} {a1 : Int32} {a2 : Int32} {a3 : Int32} (hsc : cT scr) (K : hOK kty T h) (hq_q0 : T[q0]? = some 4) (hh : cH h) : xIH scr W_X4_booked T T 95 [.inl (.ref q0), .inl (.int a1), .inl (.int a2), .inl (.int a3)] h (F_X4_booked h q0 a1 a2 a3) := by
  refine xIH_intro (E := ze_X4_booked) hsc rfl (cTb_ok rfl) hh (fun d r h' G HG Pf hR m => ?_)
  have K := kOK_refl (W := W_X4_booked) K
  unfold F_X4_booked
  show G m _ (0, [(0, .inl (.ref q0)), (1, .inl (.int a1)), (2, .inl (.int a2)), (3, .inl (.int a3))], [], h, 0, 0)
  refine k_steps HG 1 (zB_iff.mpr (?_ : G m _ (1, [(0, .inl (.ref q0)), (1, .inl (.int a1)), (2, .inl (.int a2)), (3, .inl (.int a3))], [.inl (.ref q0)], h, 0, 0)))
  refine k_getR HG rfl K hq_q0 rfl (Nat.le_of_ble_eq_true rfl) rfl rfl (fun t1 => (?_ : G m _ (4, [(0, .inl (.ref q0)), (1, .inl (.int a1)), (2, .inl (.int a2)), (3, .inl (.int a3))], [.inl (.ref (hr h q0 0))], h, 0, 0)))
  refine k_steps HG 1 (zB_iff.mpr (?_ : G m _ (5, [(0, .inl (.ref q0)), (1, .inl (.int a1)), (2, .inl (.int a2)), (3, .inl (.int a3))], [.inl (.int a3), .inl (.ref (hr h q0 0))], h, 0, 0)))
  refine k_cVI HG (E' := ze_X1_isBuyer) (Or.inl ⟨rfl, rfl⟩) hsc rfl rfl rfl rfl rfl (fun hh => x_X1_isBuyer hsc K.1 t1 hh) (fun y2 => (?_ : G m _ (8, [(0, .inl (.ref q0)), (1, .inl (.int a1)), (2, .inl (.int a2)), (3, .inl (.int a3))], [.inl (.int y2)], h, 0, 0)))
  refine k_steps HG 1 (kb_ne (x := y2) (y := (0 : Int32)) ?_ ?_)
  · show G m _ (18, [(0, .inl (.ref q0)), (1, .inl (.int a1)), (2, .inl (.int a2)), (3, .inl (.int a3))], [], h, 0, 0)
    refine k_steps HG 3 (zB_iff.mpr (?_ : G m _ (21, [(0, .inl (.ref q0)), (1, .inl (.int a1)), (2, .inl (.int a2)), (3, .inl (.int a3))], [.inl (.int a2), .inl (.int a1), .inl (.ref q0)], h, 0, 0)))
    refine k_cVI HG (E' := ze_X4_lackOfBook) (Or.inl ⟨rfl, rfl⟩) hsc rfl rfl rfl rfl rfl (fun hh => x_X4_lackOfBook hsc K.1 hq_q0 hh) (fun y3 => (?_ : G m _ (24, [(0, .inl (.ref q0)), (1, .inl (.int a1)), (2, .inl (.int a2)), (3, .inl (.int a3))], [.inl (.int y3)], h, 0, 0)))
    refine k_steps HG 3 (kb_eq (x := y3) (y := (0 : Int32)) ?_ ?_)
    · show G m _ (38, [(4, .inl (.int y3)), (0, .inl (.ref q0)), (1, .inl (.int a1)), (2, .inl (.int a2)), (3, .inl (.int a3))], [], h, 0, 0)
      refine k_steps HG 2 (zB_iff.mpr (?_ : G m _ (40, [(4, .inl (.int y3)), (0, .inl (.ref q0)), (1, .inl (.int a1)), (2, .inl (.int a2)), (3, .inl (.int a3))], [.inl (.ref q0), .inl (.int a2)], h, 0, 0)))
      refine k_getR HG rfl K hq_q0 rfl (Nat.le_of_ble_eq_true rfl) rfl rfl (fun t4 => (?_ : G m _ (43, [(4, .inl (.int y3)), (0, .inl (.ref q0)), (1, .inl (.int a1)), (2, .inl (.int a2)), (3, .inl (.int a3))], [.inl (.ref (hr h q0 0)), .inl (.int a2)], h, 0, 0)))
      refine k_getI HG rfl K t4 rfl (Nat.le_of_ble_eq_true rfl) rfl (?_ : G m _ (46, [(4, .inl (.int y3)), (0, .inl (.ref q0)), (1, .inl (.int a1)), (2, .inl (.int a2)), (3, .inl (.int a3))], [.inl (.int (hv h (hr h q0 0) 2)), .inl (.int a2)], h, 0, 0))
      refine k_steps HG 3 (zB_iff.mpr (?_ : G m _ (50, [(5, .inl (.int (a2 * (hv h (hr h q0 0) 2)))), (4, .inl (.int y3)), (0, .inl (.ref q0)), (1, .inl (.int a1)), (2, .inl (.int a2)), (3, .inl (.int a3))], [.inl (.ref q0)], h, 0, 0)))
      refine k_getR HG rfl K hq_q0 rfl (Nat.le_of_ble_eq_true rfl) rfl rfl (fun t5 => (?_ : G m _ (53, [(5, .inl (.int (a2 * (hv h (hr h q0 0) 2)))), (4, .inl (.int y3)), (0, .inl (.ref q0)), (1, .inl (.int a1)), (2, .inl (.int a2)), (3, .inl (.int a3))], [.inl (.ref (hr h q0 0))], h, 0, 0)))
      refine k_getR HG rfl K t5 rfl (Nat.le_of_ble_eq_true rfl) rfl rfl (fun t6 => (?_ : G m _ (56, [(5, .inl (.int (a2 * (hv h (hr h q0 0) 2)))), (4, .inl (.int y3)), (0, .inl (.ref q0)), (1, .inl (.int a1)), (2, .inl (.int a2)), (3, .inl (.int a3))], [.inl (.ref (hr h (hr h q0 0) 15))], h, 0, 0)))
      refine k_steps HG 1 (zB_iff.mpr (?_ : G m _ (57, [(5, .inl (.int (a2 * (hv h (hr h q0 0) 2)))), (4, .inl (.int y3)), (0, .inl (.ref q0)), (1, .inl (.int a1)), (2, .inl (.int a2)), (3, .inl (.int a3))], [.inl (.int a3), .inl (.ref (hr h (hr h q0 0) 15))], h, 0, 0)))
      refine k_iald HG rfl K t6 rfl (fun _ => rfl) (?_ : G m _ (58, [(5, .inl (.int (a2 * (hv h (hr h q0 0) 2)))), (4, .inl (.int y3)), (0, .inl (.ref q0)), (1, .inl (.int a1)), (2, .inl (.int a2)), (3, .inl (.int a3))], [.inl (.int (hv h (hr h (hr h q0 0) 15) a3.toNatClampNeg))], h, 0, 0))
      refine k_steps HG 2 (kb_lt (x := (hv h (hr h (hr h q0 0) 15) a3.toNatClampNeg)) (y := (a2 * (hv h (hr h q0 0) 2))) ?_ ?_)
      · show G m _ (74, [(5, .inl (.int (a2 * (hv h (hr h q0 0) 2)))), (4, .inl (.int y3)), (0, .inl (.ref q0)), (1, .inl (.int a1)), (2, .inl (.int a2)), (3, .inl (.int a3))], [], h, 0, 0)
        refine k_steps HG 2 (zB_iff.mpr (?_ : G m _ (77, [(5, .inl (.int (a2 * (hv h (hr h q0 0) 2)))), (4, .inl (.int y3)), (0, .inl (.ref q0)), (1, .inl (.int a1)), (2, .inl (.int a2)), (3, .inl (.int a3))], [.inl (.int (-5 : Int32)), .inl (.ref q0)], h, 0, 0)))
        refine k_cVIH HG (E' := ze_X4_refuse) (Or.inl ⟨rfl, rfl⟩) hsc rfl rfl rfl rfl rfl K rfl (fun hh => x_X4_refuse hsc K.1 hq_q0 hh) (fun y7 K7 => (?_ : G m _ (80, [(5, .inl (.int (a2 * (hv h (hr h q0 0) 2)))), (4, .inl (.int y3)), (0, .inl (.ref q0)), (1, .inl (.int a1)), (2, .inl (.int a2)), (3, .inl (.int a3))], [.inl (.int y7.1)], y7.2, 0, 0)))
        exact k_reti HG rfl rfl (fun e1 e2 => hR _ _ e1 e2 K7)
      · show G m _ (63, [(5, .inl (.int (a2 * (hv h (hr h q0 0) 2)))), (4, .inl (.int y3)), (0, .inl (.ref q0)), (1, .inl (.int a1)), (2, .inl (.int a2)), (3, .inl (.int a3))], [], h, 0, 0)
        refine k_steps HG 4 (zB_iff.mpr (?_ : G m _ (67, [(5, .inl (.int (a2 * (hv h (hr h q0 0) 2)))), (4, .inl (.int y3)), (0, .inl (.ref q0)), (1, .inl (.int a1)), (2, .inl (.int a2)), (3, .inl (.int a3))], [.inl (.int a3), .inl (.int a2), .inl (.int a1), .inl (.ref q0)], h, 0, 0)))
        refine k_cVIH HG (E' := ze_X4_firstWrong) (Or.inl ⟨rfl, rfl⟩) hsc rfl rfl rfl rfl rfl K rfl (fun hh => x_X4_firstWrong hsc K.1 hq_q0 hh) (fun y8 K8 => (?_ : G m _ (70, [(5, .inl (.int (a2 * (hv h (hr h q0 0) 2)))), (4, .inl (.int y3)), (0, .inl (.ref q0)), (1, .inl (.int a1)), (2, .inl (.int a2)), (3, .inl (.int a3))], [.inl (.int y8.1)], y8.2, 0, 0)))
        refine k_steps HG 2 (kb_eq (x := y8.1) (y := (-1 : Int32)) ?_ ?_)
        · show G m _ (81, [(5, .inl (.int (a2 * (hv h (hr h q0 0) 2)))), (4, .inl (.int y3)), (0, .inl (.ref q0)), (1, .inl (.int a1)), (2, .inl (.int a2)), (3, .inl (.int a3))], [], y8.2, 0, 0)
          refine k_steps HG 1 (zB_iff.mpr (?_ : G m _ (82, [(5, .inl (.int (a2 * (hv h (hr h q0 0) 2)))), (4, .inl (.int y3)), (0, .inl (.ref q0)), (1, .inl (.int a1)), (2, .inl (.int a2)), (3, .inl (.int a3))], [.inl (.ref q0)], y8.2, 0, 0)))
          refine k_getR HG rfl K8 hq_q0 rfl (Nat.le_of_ble_eq_true rfl) rfl rfl (fun t9 => (?_ : G m _ (85, [(5, .inl (.int (a2 * (hv h (hr h q0 0) 2)))), (4, .inl (.int y3)), (0, .inl (.ref q0)), (1, .inl (.int a1)), (2, .inl (.int a2)), (3, .inl (.int a3))], [.inl (.ref (hr y8.2 q0 0))], y8.2, 0, 0)))
          refine k_cVI HG (E' := ze_X1_standing) (Or.inl ⟨rfl, rfl⟩) hsc rfl rfl rfl rfl rfl (fun hh => x_X1_standing hsc K8.1 t9 hh) (fun y10 => (?_ : G m _ (88, [(5, .inl (.int (a2 * (hv h (hr h q0 0) 2)))), (4, .inl (.int y3)), (0, .inl (.ref q0)), (1, .inl (.int a1)), (2, .inl (.int a2)), (3, .inl (.int a3))], [.inl (.int y10)], y8.2, 0, 0)))
          refine k_steps HG 1 (zB_iff.mpr (?_ : G m _ (89, [(5, .inl (.int (a2 * (hv h (hr h q0 0) 2)))), (4, .inl (.int y3)), (0, .inl (.ref q0)), (1, .inl (.int a1)), (2, .inl (.int a2)), (3, .inl (.int a3))], [.inl (.ref q0), .inl (.int y10)], y8.2, 0, 0)))
          refine k_getR HG rfl K8 hq_q0 rfl (Nat.le_of_ble_eq_true rfl) rfl rfl (fun t11 => (?_ : G m _ (92, [(5, .inl (.int (a2 * (hv h (hr h q0 0) 2)))), (4, .inl (.int y3)), (0, .inl (.ref q0)), (1, .inl (.int a1)), (2, .inl (.int a2)), (3, .inl (.int a3))], [.inl (.ref (hr y8.2 q0 2)), .inl (.int y10)], y8.2, 0, 0)))
          refine k_cVI HG (E' := ze_X1_standing) (Or.inl ⟨rfl, rfl⟩) hsc rfl rfl rfl rfl rfl (fun hh => x_X1_standing hsc K8.1 t11 hh) (fun y12 => (?_ : G m _ (95, [(5, .inl (.int (a2 * (hv h (hr h q0 0) 2)))), (4, .inl (.int y3)), (0, .inl (.ref q0)), (1, .inl (.int a1)), (2, .inl (.int a2)), (3, .inl (.int a3))], [.inl (.int y12), .inl (.int y10)], y8.2, 0, 0)))
          refine k_steps HG 5 (zB_iff.mpr (?_ : G m _ (101, [(6, .inl (.int (y10 &&& (y12 ^^^ (-1 : Int32))))), (5, .inl (.int (a2 * (hv h (hr h q0 0) 2)))), (4, .inl (.int y3)), (0, .inl (.ref q0)), (1, .inl (.int a1)), (2, .inl (.int a2)), (3, .inl (.int a3))], [.inl (.ref q0)], y8.2, 0, 0)))
          refine k_getR HG rfl K8 hq_q0 rfl (Nat.le_of_ble_eq_true rfl) rfl rfl (fun t13 => (?_ : G m _ (104, [(6, .inl (.int (y10 &&& (y12 ^^^ (-1 : Int32))))), (5, .inl (.int (a2 * (hv h (hr h q0 0) 2)))), (4, .inl (.int y3)), (0, .inl (.ref q0)), (1, .inl (.int a1)), (2, .inl (.int a2)), (3, .inl (.int a3))], [.inl (.ref (hr y8.2 q0 2))], y8.2, 0, 0)))
          refine k_steps HG 2 (zB_iff.mpr (?_ : G m _ (107, [(6, .inl (.int (y10 &&& (y12 ^^^ (-1 : Int32))))), (5, .inl (.int (a2 * (hv h (hr h q0 0) 2)))), (4, .inl (.int y3)), (0, .inl (.ref q0)), (1, .inl (.int a1)), (2, .inl (.int a2)), (3, .inl (.int a3))], [.inl (.int (a2 * (hv h (hr h q0 0) 2))), .inl (.int a3), .inl (.ref (hr y8.2 q0 2))], y8.2, 0, 0)))
          refine k_cVH HG (E' := ze_X1_pay) (Or.inl ⟨rfl, rfl⟩) hsc rfl rfl rfl rfl rfl K8 rfl (fun hh => x_X1_pay hsc K8.1 t13 hh) (fun h14 K14 => (?_ : G m _ (110, [(6, .inl (.int (y10 &&& (y12 ^^^ (-1 : Int32))))), (5, .inl (.int (a2 * (hv h (hr h q0 0) 2)))), (4, .inl (.int y3)), (0, .inl (.ref q0)), (1, .inl (.int a1)), (2, .inl (.int a2)), (3, .inl (.int a3))], [], h14, 0, 0)))
          refine k_steps HG 1 (zB_iff.mpr (?_ : G m _ (111, [(6, .inl (.int (y10 &&& (y12 ^^^ (-1 : Int32))))), (5, .inl (.int (a2 * (hv h (hr h q0 0) 2)))), (4, .inl (.int y3)), (0, .inl (.ref q0)), (1, .inl (.int a1)), (2, .inl (.int a2)), (3, .inl (.int a3))], [.inl (.ref q0)], h14, 0, 0)))
          refine k_getR HG rfl K14 hq_q0 rfl (Nat.le_of_ble_eq_true rfl) rfl rfl (fun t15 => (?_ : G m _ (114, [(6, .inl (.int (y10 &&& (y12 ^^^ (-1 : Int32))))), (5, .inl (.int (a2 * (hv h (hr h q0 0) 2)))), (4, .inl (.int y3)), (0, .inl (.ref q0)), (1, .inl (.int a1)), (2, .inl (.int a2)), (3, .inl (.int a3))], [.inl (.ref (hr h14 q0 0))], h14, 0, 0)))
          refine k_steps HG 1 (zB_iff.mpr (?_ : G m _ (115, [(6, .inl (.int (y10 &&& (y12 ^^^ (-1 : Int32))))), (5, .inl (.int (a2 * (hv h (hr h q0 0) 2)))), (4, .inl (.int y3)), (0, .inl (.ref q0)), (1, .inl (.int a1)), (2, .inl (.int a2)), (3, .inl (.int a3))], [.inl (.ref q0), .inl (.ref (hr h14 q0 0))], h14, 0, 0)))
          refine k_getR HG rfl K14 hq_q0 rfl (Nat.le_of_ble_eq_true rfl) rfl rfl (fun t16 => (?_ : G m _ (118, [(6, .inl (.int (y10 &&& (y12 ^^^ (-1 : Int32))))), (5, .inl (.int (a2 * (hv h (hr h q0 0) 2)))), (4, .inl (.int y3)), (0, .inl (.ref q0)), (1, .inl (.int a1)), (2, .inl (.int a2)), (3, .inl (.int a3))], [.inl (.ref (hr h14 q0 2)), .inl (.ref (hr h14 q0 0))], h14, 0, 0)))
          refine k_cVH HG (E' := ze_X1_become) (Or.inl ⟨rfl, rfl⟩) hsc rfl rfl rfl rfl rfl K14 rfl (fun hh => x_X1_become hsc K14.1 t15 t16 hh) (fun h17 K17 => (?_ : G m _ (121, [(6, .inl (.int (y10 &&& (y12 ^^^ (-1 : Int32))))), (5, .inl (.int (a2 * (hv h (hr h q0 0) 2)))), (4, .inl (.int y3)), (0, .inl (.ref q0)), (1, .inl (.int a1)), (2, .inl (.int a2)), (3, .inl (.int a3))], [], h17, 0, 0)))
          refine k_steps HG 1 (zB_iff.mpr (?_ : G m _ (123, [(6, .inl (.int (y10 &&& (y12 ^^^ (-1 : Int32))))), (5, .inl (.int (a2 * (hv h (hr h q0 0) 2)))), (4, .inl (.int y3)), (0, .inl (.ref q0)), (1, .inl (.int a1)), (2, .inl (.int a2)), (3, .inl (.int a3))], [.inl (.int (y10 &&& (y12 ^^^ (-1 : Int32))))], h17, 0, 0)))
          exact k_reti HG rfl rfl (fun e1 e2 => hR _ _ e1 e2 K17)
        · show G m _ (74, [(5, .inl (.int (a2 * (hv h (hr h q0 0) 2)))), (4, .inl (.int y3)), (0, .inl (.ref q0)), (1, .inl (.int a1)), (2, .inl (.int a2)), (3, .inl (.int a3))], [], y8.2, 0, 0)
          refine k_steps HG 2 (zB_iff.mpr (?_ : G m _ (77, [(5, .inl (.int (a2 * (hv h (hr h q0 0) 2)))), (4, .inl (.int y3)), (0, .inl (.ref q0)), (1, .inl (.int a1)), (2, .inl (.int a2)), (3, .inl (.int a3))], [.inl (.int (-5 : Int32)), .inl (.ref q0)], y8.2, 0, 0)))
          refine k_cVIH HG (E' := ze_X4_refuse) (Or.inl ⟨rfl, rfl⟩) hsc rfl rfl rfl rfl rfl K8 rfl (fun hh => x_X4_refuse hsc K8.1 hq_q0 hh) (fun y18 K18 => (?_ : G m _ (80, [(5, .inl (.int (a2 * (hv h (hr h q0 0) 2)))), (4, .inl (.int y3)), (0, .inl (.ref q0)), (1, .inl (.int a1)), (2, .inl (.int a2)), (3, .inl (.int a3))], [.inl (.int y18.1)], y18.2, 0, 0)))
          exact k_reti HG rfl rfl (fun e1 e2 => hR _ _ e1 e2 K18)
    · show G m _ (31, [(4, .inl (.int y3)), (0, .inl (.ref q0)), (1, .inl (.int a1)), (2, .inl (.int a2)), (3, .inl (.int a3))], [], h, 0, 0)
      refine k_steps HG 2 (zB_iff.mpr (?_ : G m _ (34, [(4, .inl (.int y3)), (0, .inl (.ref q0)), (1, .inl (.int a1)), (2, .inl (.int a2)), (3, .inl (.int a3))], [.inl (.int y3), .inl (.ref q0)], h, 0, 0)))
      refine k_cVIH HG (E' := ze_X4_refuse) (Or.inl ⟨rfl, rfl⟩) hsc rfl rfl rfl rfl rfl K rfl (fun hh => x_X4_refuse hsc K.1 hq_q0 hh) (fun y19 K19 => (?_ : G m _ (37, [(4, .inl (.int y3)), (0, .inl (.ref q0)), (1, .inl (.int a1)), (2, .inl (.int a2)), (3, .inl (.int a3))], [.inl (.int y19.1)], y19.2, 0, 0)))
      exact k_reti HG rfl rfl (fun e1 e2 => hR _ _ e1 e2 K19)
  · show G m _ (11, [(0, .inl (.ref q0)), (1, .inl (.int a1)), (2, .inl (.int a2)), (3, .inl (.int a3))], [], h, 0, 0)
    refine k_steps HG 2 (zB_iff.mpr (?_ : G m _ (14, [(0, .inl (.ref q0)), (1, .inl (.int a1)), (2, .inl (.int a2)), (3, .inl (.int a3))], [.inl (.int (-2 : Int32)), .inl (.ref q0)], h, 0, 0)))
    refine k_cVIH HG (E' := ze_X4_refuse) (Or.inl ⟨rfl, rfl⟩) hsc rfl rfl rfl rfl rfl K rfl (fun hh => x_X4_refuse hsc K.1 hq_q0 hh) (fun y20 K20 => (?_ : G m _ (17, [(0, .inl (.ref q0)), (1, .inl (.int a1)), (2, .inl (.int a2)), (3, .inl (.int a3))], [.inl (.int y20.1)], y20.2, 0, 0)))
    exact k_reti HG rfl rfl (fun e1 e2 => hR _ _ e1 e2 K20)
def W_X4_chain : List (Nat × Nat) := [(3, 3), (3, 4), (3, 5), (3, 6), (19, 1000), (20, 1000), (23, 1000)]
noncomputable def F_X4_chain (h : zH) (q0 : Nat) (a1 : Int32) : Int32 × zH := (letf (F_X1_isThing h (hr h q0 0) a1) (fun y2 => (if y2 = (0 : Int32) then (letf (F_X4_refuse h q0 (-2 : Int32)) (fun y6 => (y6.1, y6.2))) else (letf (F_X3_fewestGoes h (hr h q0 3) (hr h q0 0) a1) (fun y5 => (y5.1, y5.2))))))
theorem x_X4_chain {scr : List zV} {T : List Nat} {h : zH} {q0 : Nat} {a1 : Int32} (hsc : cT scr) (K : hOK kty T h) (hq_q0 : T[q0]? = some 4) (hh : cH h) : xIH scr W_X4_chain T T 98 [.inl (.ref q0), .inl (.int a1)] h (F_X4_chain h q0 a1) := by
  refine xIH_intro (E := ze_X4_chain) hsc rfl (cTb_ok rfl) hh (fun d r h' G HG Pf hR m => ?_)
  have K := kOK_refl (W := W_X4_chain) K
  unfold F_X4_chain
  show G m _ (0, [(0, .inl (.ref q0)), (1, .inl (.int a1))], [], h, 0, 0)
  refine k_steps HG 1 (zB_iff.mpr (?_ : G m _ (1, [(0, .inl (.ref q0)), (1, .inl (.int a1))], [.inl (.ref q0)], h, 0, 0)))
  refine k_getR HG rfl K hq_q0 rfl (Nat.le_of_ble_eq_true rfl) rfl rfl (fun t1 => (?_ : G m _ (4, [(0, .inl (.ref q0)), (1, .inl (.int a1))], [.inl (.ref (hr h q0 0))], h, 0, 0)))
  refine k_steps HG 1 (zB_iff.mpr (?_ : G m _ (5, [(0, .inl (.ref q0)), (1, .inl (.int a1))], [.inl (.int a1), .inl (.ref (hr h q0 0))], h, 0, 0)))
  refine k_cVI HG (E' := ze_X1_isThing) (Or.inl ⟨rfl, rfl⟩) hsc rfl rfl rfl rfl rfl (fun hh => x_X1_isThing hsc K.1 t1 hh) (fun y2 => (?_ : G m _ (8, [(0, .inl (.ref q0)), (1, .inl (.int a1))], [.inl (.int y2)], h, 0, 0)))
  refine k_steps HG 1 (kb_ne (x := y2) (y := (0 : Int32)) ?_ ?_)
  · show G m _ (18, [(0, .inl (.ref q0)), (1, .inl (.int a1))], [], h, 0, 0)
    refine k_steps HG 1 (zB_iff.mpr (?_ : G m _ (19, [(0, .inl (.ref q0)), (1, .inl (.int a1))], [.inl (.ref q0)], h, 0, 0)))
    refine k_getR HG rfl K hq_q0 rfl (Nat.le_of_ble_eq_true rfl) rfl rfl (fun t3 => (?_ : G m _ (22, [(0, .inl (.ref q0)), (1, .inl (.int a1))], [.inl (.ref (hr h q0 3))], h, 0, 0)))
    refine k_steps HG 1 (zB_iff.mpr (?_ : G m _ (23, [(0, .inl (.ref q0)), (1, .inl (.int a1))], [.inl (.ref q0), .inl (.ref (hr h q0 3))], h, 0, 0)))
    refine k_getR HG rfl K hq_q0 rfl (Nat.le_of_ble_eq_true rfl) rfl rfl (fun t4 => (?_ : G m _ (26, [(0, .inl (.ref q0)), (1, .inl (.int a1))], [.inl (.ref (hr h q0 0)), .inl (.ref (hr h q0 3))], h, 0, 0)))
    refine k_steps HG 1 (zB_iff.mpr (?_ : G m _ (27, [(0, .inl (.ref q0)), (1, .inl (.int a1))], [.inl (.int a1), .inl (.ref (hr h q0 0)), .inl (.ref (hr h q0 3))], h, 0, 0)))
    refine k_cVIH HG (E' := ze_X3_fewestGoes) (Or.inl ⟨rfl, rfl⟩) hsc rfl rfl rfl rfl rfl K rfl (fun hh => x_X3_fewestGoes hsc K.1 t3 t4 hh) (fun y5 K5 => (?_ : G m _ (30, [(0, .inl (.ref q0)), (1, .inl (.int a1))], [.inl (.int y5.1)], y5.2, 0, 0)))
    exact k_reti HG rfl rfl (fun e1 e2 => hR _ _ e1 e2 K5)
  · show G m _ (11, [(0, .inl (.ref q0)), (1, .inl (.int a1))], [], h, 0, 0)
    refine k_steps HG 2 (zB_iff.mpr (?_ : G m _ (14, [(0, .inl (.ref q0)), (1, .inl (.int a1))], [.inl (.int (-2 : Int32)), .inl (.ref q0)], h, 0, 0)))
    refine k_cVIH HG (E' := ze_X4_refuse) (Or.inl ⟨rfl, rfl⟩) hsc rfl rfl rfl rfl rfl K rfl (fun hh => x_X4_refuse hsc K.1 hq_q0 hh) (fun y6 K6 => (?_ : G m _ (17, [(0, .inl (.ref q0)), (1, .inl (.int a1))], [.inl (.int y6.1)], y6.2, 0, 0)))
    exact k_reti HG rfl rfl (fun e1 e2 => hR _ _ e1 e2 K6)
def W_X4_judge : List (Nat × Nat) := [(1, 0), (1, 1), (1, 2), (1, 3), (1, 4), (1, 5), (1, 6), (1, 7), (1, 8), (1, 14), (11, 1000), (12, 1000), (13, 1000), (14, 1000), (15, 1000), (16, 1000), (17, 1000), (23, 1000)]
noncomputable def F_X4_judge (h : zH) (q0 : Nat) (a1 : Int32) (a2 : Int32) : Int32 × zH := (letf (F_X4_lackOfBook h q0 a1 a2) (fun y1 => (if y1 = (0 : Int32) then (letf (F_X4_firstWrong h q0 a1 a2 (0 : Int32)) (fun y2 => (y2.1, y2.2))) else (letf (F_X4_refuse h q0 y1) (fun y3 => (y3.1, y3.2))))))
theorem x_X4_judge {scr : List zV} {T : List Nat} {h : zH} {q0 : Nat} {a1 : Int32} {a2 : Int32} (hsc : cT scr) (K : hOK kty T h) (hq_q0 : T[q0]? = some 4) (hh : cH h) : xIH scr W_X4_judge T T 116 [.inl (.ref q0), .inl (.int a1), .inl (.int a2)] h (F_X4_judge h q0 a1 a2) := by
  refine xIH_intro (E := ze_X4_judge) hsc rfl (cTb_ok rfl) hh (fun d r h' G HG Pf hR m => ?_)
  have K := kOK_refl (W := W_X4_judge) K
  unfold F_X4_judge
  show G m _ (0, [(0, .inl (.ref q0)), (1, .inl (.int a1)), (2, .inl (.int a2))], [], h, 0, 0)
  refine k_steps HG 3 (zB_iff.mpr (?_ : G m _ (3, [(0, .inl (.ref q0)), (1, .inl (.int a1)), (2, .inl (.int a2))], [.inl (.int a2), .inl (.int a1), .inl (.ref q0)], h, 0, 0)))
  refine k_cVI HG (E' := ze_X4_lackOfBook) (Or.inl ⟨rfl, rfl⟩) hsc rfl rfl rfl rfl rfl (fun hh => x_X4_lackOfBook hsc K.1 hq_q0 hh) (fun y1 => (?_ : G m _ (6, [(0, .inl (.ref q0)), (1, .inl (.int a1)), (2, .inl (.int a2))], [.inl (.int y1)], h, 0, 0)))
  refine k_steps HG 3 (kb_eq (x := y1) (y := (0 : Int32)) ?_ ?_)
  · show G m _ (19, [(3, .inl (.int y1)), (0, .inl (.ref q0)), (1, .inl (.int a1)), (2, .inl (.int a2))], [], h, 0, 0)
    refine k_steps HG 4 (zB_iff.mpr (?_ : G m _ (23, [(3, .inl (.int y1)), (0, .inl (.ref q0)), (1, .inl (.int a1)), (2, .inl (.int a2))], [.inl (.int (0 : Int32)), .inl (.int a2), .inl (.int a1), .inl (.ref q0)], h, 0, 0)))
    refine k_cVIH HG (E' := ze_X4_firstWrong) (Or.inl ⟨rfl, rfl⟩) hsc rfl rfl rfl rfl rfl K rfl (fun hh => x_X4_firstWrong hsc K.1 hq_q0 hh) (fun y2 K2 => (?_ : G m _ (26, [(3, .inl (.int y1)), (0, .inl (.ref q0)), (1, .inl (.int a1)), (2, .inl (.int a2))], [.inl (.int y2.1)], y2.2, 0, 0)))
    exact k_reti HG rfl rfl (fun e1 e2 => hR _ _ e1 e2 K2)
  · show G m _ (11, [(3, .inl (.int y1)), (0, .inl (.ref q0)), (1, .inl (.int a1)), (2, .inl (.int a2))], [], h, 0, 0)
    refine k_steps HG 2 (zB_iff.mpr (?_ : G m _ (13, [(3, .inl (.int y1)), (0, .inl (.ref q0)), (1, .inl (.int a1)), (2, .inl (.int a2))], [.inl (.int y1), .inl (.ref q0)], h, 0, 0)))
    refine k_cVIH HG (E' := ze_X4_refuse) (Or.inl ⟨rfl, rfl⟩) hsc rfl rfl rfl rfl rfl K rfl (fun hh => x_X4_refuse hsc K.1 hq_q0 hh) (fun y3 K3 => (?_ : G m _ (16, [(3, .inl (.int y1)), (0, .inl (.ref q0)), (1, .inl (.int a1)), (2, .inl (.int a2))], [.inl (.int y3.1)], y3.2, 0, 0)))
    refine k_steps HG 1 (zB_iff.mpr (?_ : G m _ (26, [(3, .inl (.int y1)), (0, .inl (.ref q0)), (1, .inl (.int a1)), (2, .inl (.int a2))], [.inl (.int y3.1)], y3.2, 0, 0)))
    exact k_reti HG rfl rfl (fun e1 e2 => hR _ _ e1 e2 K3)
def W_X4_stall : List (Nat × Nat) := [(1, 0), (1, 1), (1, 2), (1, 3), (1, 4), (1, 5), (1, 6), (1, 7), (1, 8), (1, 14), (2, 1), (2, 2), (2, 3), (2, 4), (2, 5), (11, 1000), (12, 1000), (13, 1000), (14, 1000), (15, 1000), (16, 1000), (17, 1000), (23, 1000)]
noncomputable def F_X4_stall (h : zH) (q0 : Nat) : Int32 × zH := (letf (F_X1_become h (hr h q0 2) (hr h q0 0)) (fun h3 => (letf (F_X2_readInto h3 (hr h3 q0 4) (hr h3 q0 2)) (fun y6 => (letf (hput y6.2 (hr y6.2 q0 4) 1 (.inl (.int (0 : Int32)))) (fun h8 => (if y6.1 < (0 : Int32) then (letf (F_X4_refuse h8 q0 (-2 : Int32)) (fun y12 => (y6.1, y12.2))) else (letf (F_X1_become h8 (hr h8 q0 0) (hr h8 q0 2)) (fun h11 => (y6.1, h11))))))))))
theorem x_X4_stall {scr : List zV} {T : List Nat} {h : zH} {q0 : Nat} (hsc : cT scr) (K : hOK kty T h) (hq_q0 : T[q0]? = some 4) (hh : cH h) : xIH scr W_X4_stall T T 138 [.inl (.ref q0)] h (F_X4_stall h q0) := by
  refine xIH_intro (E := ze_X4_stall) hsc rfl (cTb_ok rfl) hh (fun d r h' G HG Pf hR m => ?_)
  have K := kOK_refl (W := W_X4_stall) K
  unfold F_X4_stall
  show G m _ (0, [(0, .inl (.ref q0))], [], h, 0, 0)
  refine k_steps HG 1 (zB_iff.mpr (?_ : G m _ (1, [(0, .inl (.ref q0))], [.inl (.ref q0)], h, 0, 0)))
  refine k_getR HG rfl K hq_q0 rfl (Nat.le_of_ble_eq_true rfl) rfl rfl (fun t1 => (?_ : G m _ (4, [(0, .inl (.ref q0))], [.inl (.ref (hr h q0 2))], h, 0, 0)))
  refine k_steps HG 1 (zB_iff.mpr (?_ : G m _ (5, [(0, .inl (.ref q0))], [.inl (.ref q0), .inl (.ref (hr h q0 2))], h, 0, 0)))
  refine k_getR HG rfl K hq_q0 rfl (Nat.le_of_ble_eq_true rfl) rfl rfl (fun t2 => (?_ : G m _ (8, [(0, .inl (.ref q0))], [.inl (.ref (hr h q0 0)), .inl (.ref (hr h q0 2))], h, 0, 0)))
  refine k_cVH HG (E' := ze_X1_become) (Or.inl ⟨rfl, rfl⟩) hsc rfl rfl rfl rfl rfl K rfl (fun hh => x_X1_become hsc K.1 t1 t2 hh) (fun h3 K3 => (?_ : G m _ (11, [(0, .inl (.ref q0))], [], h3, 0, 0)))
  refine k_steps HG 1 (zB_iff.mpr (?_ : G m _ (12, [(0, .inl (.ref q0))], [.inl (.ref q0)], h3, 0, 0)))
  refine k_getR HG rfl K3 hq_q0 rfl (Nat.le_of_ble_eq_true rfl) rfl rfl (fun t4 => (?_ : G m _ (15, [(0, .inl (.ref q0))], [.inl (.ref (hr h3 q0 4))], h3, 0, 0)))
  refine k_steps HG 1 (zB_iff.mpr (?_ : G m _ (16, [(0, .inl (.ref q0))], [.inl (.ref q0), .inl (.ref (hr h3 q0 4))], h3, 0, 0)))
  refine k_getR HG rfl K3 hq_q0 rfl (Nat.le_of_ble_eq_true rfl) rfl rfl (fun t5 => (?_ : G m _ (19, [(0, .inl (.ref q0))], [.inl (.ref (hr h3 q0 2)), .inl (.ref (hr h3 q0 4))], h3, 0, 0)))
  refine k_cVIH HG (E' := ze_X2_readInto) (Or.inl ⟨rfl, rfl⟩) hsc rfl rfl rfl rfl rfl K3 rfl (fun hh => x_X2_readInto hsc K3.1 t4 t5 hh) (fun y6 K6 => (?_ : G m _ (22, [(0, .inl (.ref q0))], [.inl (.int y6.1)], y6.2, 0, 0)))
  refine k_steps HG 2 (zB_iff.mpr (?_ : G m _ (24, [(1, .inl (.int y6.1)), (0, .inl (.ref q0))], [.inl (.ref q0)], y6.2, 0, 0)))
  refine k_getR HG rfl K6 hq_q0 rfl (Nat.le_of_ble_eq_true rfl) rfl rfl (fun t7 => (?_ : G m _ (27, [(1, .inl (.int y6.1)), (0, .inl (.ref q0))], [.inl (.ref (hr y6.2 q0 4))], y6.2, 0, 0)))
  refine k_steps HG 1 (zB_iff.mpr (?_ : G m _ (28, [(1, .inl (.int y6.1)), (0, .inl (.ref q0))], [.inl (.int (0 : Int32)), .inl (.ref (hr y6.2 q0 4))], y6.2, 0, 0)))
  refine k_putI HG rfl K6 t7 rfl rfl rfl (fun h8 K8 => (?_ : G m _ (31, [(1, .inl (.int y6.1)), (0, .inl (.ref q0))], [], h8, 0, 0)))
  refine k_steps HG 2 (kb_ge (x := y6.1) (y := (0 : Int32)) ?_ ?_)
  · show G m _ (44, [(1, .inl (.int y6.1)), (0, .inl (.ref q0))], [], h8, 0, 0)
    refine k_steps HG 1 (zB_iff.mpr (?_ : G m _ (45, [(1, .inl (.int y6.1)), (0, .inl (.ref q0))], [.inl (.ref q0)], h8, 0, 0)))
    refine k_getR HG rfl K8 hq_q0 rfl (Nat.le_of_ble_eq_true rfl) rfl rfl (fun t9 => (?_ : G m _ (48, [(1, .inl (.int y6.1)), (0, .inl (.ref q0))], [.inl (.ref (hr h8 q0 0))], h8, 0, 0)))
    refine k_steps HG 1 (zB_iff.mpr (?_ : G m _ (49, [(1, .inl (.int y6.1)), (0, .inl (.ref q0))], [.inl (.ref q0), .inl (.ref (hr h8 q0 0))], h8, 0, 0)))
    refine k_getR HG rfl K8 hq_q0 rfl (Nat.le_of_ble_eq_true rfl) rfl rfl (fun t10 => (?_ : G m _ (52, [(1, .inl (.int y6.1)), (0, .inl (.ref q0))], [.inl (.ref (hr h8 q0 2)), .inl (.ref (hr h8 q0 0))], h8, 0, 0)))
    refine k_cVH HG (E' := ze_X1_become) (Or.inl ⟨rfl, rfl⟩) hsc rfl rfl rfl rfl rfl K8 rfl (fun hh => x_X1_become hsc K8.1 t9 t10 hh) (fun h11 K11 => (?_ : G m _ (55, [(1, .inl (.int y6.1)), (0, .inl (.ref q0))], [], h11, 0, 0)))
    refine k_steps HG 1 (zB_iff.mpr (?_ : G m _ (56, [(1, .inl (.int y6.1)), (0, .inl (.ref q0))], [.inl (.int y6.1)], h11, 0, 0)))
    exact k_reti HG rfl rfl (fun e1 e2 => hR _ _ e1 e2 K11)
  · show G m _ (35, [(1, .inl (.int y6.1)), (0, .inl (.ref q0))], [], h8, 0, 0)
    refine k_steps HG 2 (zB_iff.mpr (?_ : G m _ (38, [(1, .inl (.int y6.1)), (0, .inl (.ref q0))], [.inl (.int (-2 : Int32)), .inl (.ref q0)], h8, 0, 0)))
    refine k_cVIH HG (E' := ze_X4_refuse) (Or.inl ⟨rfl, rfl⟩) hsc rfl rfl rfl rfl rfl K8 rfl (fun hh => x_X4_refuse hsc K8.1 hq_q0 hh) (fun y12 K12 => (?_ : G m _ (41, [(1, .inl (.int y6.1)), (0, .inl (.ref q0))], [.inl (.int y12.1)], y12.2, 0, 0)))
    refine k_steps HG 2 (zB_iff.mpr (?_ : G m _ (43, [(1, .inl (.int y6.1)), (0, .inl (.ref q0))], [.inl (.int y6.1)], y12.2, 0, 0)))
    exact k_reti HG rfl rfl (fun e1 e2 => hR _ _ e1 e2 K12)
def W_X4_takings : List (Nat × Nat) := [(23, 1000)]
noncomputable def F_X4_takings (h : zH) (q0 : Nat) (a1 : Int32) : Int32 × zH := (letf (F_X4_isWithin a1 (1 : Int32) (99 : Int32)) (fun y1 => (if y1 = (0 : Int32) then (letf (F_X4_refuse h q0 (-2 : Int32)) (fun y2 => (y2.1, y2.2))) else (letf (F_X1_takingsAt h (hr h q0 0) a1) (fun y4 => (y4, h))))))
theorem x_X4_takings {scr : List zV} {T : List Nat} {h : zH} {q0 : Nat} {a1 : Int32} (hsc : cT scr) (K : hOK kty T h) (hq_q0 : T[q0]? = some 4) (hh : cH h) : xIH scr W_X4_takings T T 143 [.inl (.ref q0), .inl (.int a1)] h (F_X4_takings h q0 a1) := by
  refine xIH_intro (E := ze_X4_takings) hsc rfl (cTb_ok rfl) hh (fun d r h' G HG Pf hR m => ?_)
  have K := kOK_refl (W := W_X4_takings) K
  unfold F_X4_takings
  show G m _ (0, [(0, .inl (.ref q0)), (1, .inl (.int a1))], [], h, 0, 0)
  refine k_steps HG 3 (zB_iff.mpr (?_ : G m _ (4, [(0, .inl (.ref q0)), (1, .inl (.int a1))], [.inl (.int (99 : Int32)), .inl (.int (1 : Int32)), .inl (.int a1)], h, 0, 0)))
  refine k_cSI HG (E' := ze_X4_isWithin) (Or.inl rfl) hsc rfl rfl rfl rfl (fun hh => x_X4_isWithin hsc hh) (fun y1 => (?_ : G m _ (7, [(0, .inl (.ref q0)), (1, .inl (.int a1))], [.inl (.int y1)], h, 0, 0)))
  refine k_steps HG 1 (kb_eq (x := y1) (y := (0 : Int32)) ?_ ?_)
  · show G m _ (21, [(0, .inl (.ref q0)), (1, .inl (.int a1))], [], h, 0, 0)
    refine k_steps HG 2 (zB_iff.mpr (?_ : G m _ (24, [(0, .inl (.ref q0)), (1, .inl (.int a1))], [.inl (.int (-2 : Int32)), .inl (.ref q0)], h, 0, 0)))
    refine k_cVIH HG (E' := ze_X4_refuse) (Or.inl ⟨rfl, rfl⟩) hsc rfl rfl rfl rfl rfl K rfl (fun hh => x_X4_refuse hsc K.1 hq_q0 hh) (fun y2 K2 => (?_ : G m _ (27, [(0, .inl (.ref q0)), (1, .inl (.int a1))], [.inl (.int y2.1)], y2.2, 0, 0)))
    exact k_reti HG rfl rfl (fun e1 e2 => hR _ _ e1 e2 K2)
  · show G m _ (10, [(0, .inl (.ref q0)), (1, .inl (.int a1))], [], h, 0, 0)
    refine k_steps HG 1 (zB_iff.mpr (?_ : G m _ (11, [(0, .inl (.ref q0)), (1, .inl (.int a1))], [.inl (.ref q0)], h, 0, 0)))
    refine k_getR HG rfl K hq_q0 rfl (Nat.le_of_ble_eq_true rfl) rfl rfl (fun t3 => (?_ : G m _ (14, [(0, .inl (.ref q0)), (1, .inl (.int a1))], [.inl (.ref (hr h q0 0))], h, 0, 0)))
    refine k_steps HG 1 (zB_iff.mpr (?_ : G m _ (15, [(0, .inl (.ref q0)), (1, .inl (.int a1))], [.inl (.int a1), .inl (.ref (hr h q0 0))], h, 0, 0)))
    refine k_cVI HG (E' := ze_X1_takingsAt) (Or.inl ⟨rfl, rfl⟩) hsc rfl rfl rfl rfl rfl (fun hh => x_X1_takingsAt hsc K.1 t3 hh) (fun y4 => (?_ : G m _ (18, [(0, .inl (.ref q0)), (1, .inl (.int a1))], [.inl (.int y4)], h, 0, 0)))
    refine k_steps HG 1 (zB_iff.mpr (?_ : G m _ (27, [(0, .inl (.ref q0)), (1, .inl (.int a1))], [.inl (.int y4)], h, 0, 0)))
    exact k_reti HG rfl rfl (fun e1 e2 => hR _ _ e1 e2 K)
def W_X4_won : List (Nat × Nat) := [(1, 0), (1, 1), (1, 2), (1, 3), (1, 4), (1, 5), (1, 6), (1, 7), (1, 8), (1, 14), (11, 1000), (12, 1000), (13, 1000), (14, 1000), (15, 1000), (16, 1000), (17, 1000), (23, 1000)]
noncomputable def F_X4_won (h : zH) (q0 : Nat) (a1 : Int32) (a2 : Int32) : Int32 × zH := (letf (F_X4_lackOfBook h q0 a1 a2) (fun y1 => (if y1 = (0 : Int32) then (letf (F_X4_firstWrong h q0 a1 a2 (0 : Int32)) (fun y2 => (if y2.1 = (-1 : Int32) then (letf (F_X1_standing y2.2 (hr y2.2 q0 0)) (fun y4 => (letf (F_X1_standing y2.2 (hr y2.2 q0 2)) (fun y6 => ((y4 &&& (y6 ^^^ (-1 : Int32))), y2.2))))) else (letf (F_X4_refuse y2.2 q0 (-5 : Int32)) (fun y7 => (y7.1, y7.2)))))) else (letf (F_X4_refuse h q0 y1) (fun y8 => (y8.1, y8.2))))))
theorem x_X4_won {scr : List zV} {T : List Nat} {h : zH} {q0 : Nat} {a1 : Int32} {a2 : Int32} (hsc : cT scr) (K : hOK kty T h) (hq_q0 : T[q0]? = some 4) (hh : cH h) : xIH scr W_X4_won T T 149 [.inl (.ref q0), .inl (.int a1), .inl (.int a2)] h (F_X4_won h q0 a1 a2) := by
  refine xIH_intro (E := ze_X4_won) hsc rfl (cTb_ok rfl) hh (fun d r h' G HG Pf hR m => ?_)
  have K := kOK_refl (W := W_X4_won) K
  unfold F_X4_won
  show G m _ (0, [(0, .inl (.ref q0)), (1, .inl (.int a1)), (2, .inl (.int a2))], [], h, 0, 0)
  refine k_steps HG 3 (zB_iff.mpr (?_ : G m _ (3, [(0, .inl (.ref q0)), (1, .inl (.int a1)), (2, .inl (.int a2))], [.inl (.int a2), .inl (.int a1), .inl (.ref q0)], h, 0, 0)))
  refine k_cVI HG (E' := ze_X4_lackOfBook) (Or.inl ⟨rfl, rfl⟩) hsc rfl rfl rfl rfl rfl (fun hh => x_X4_lackOfBook hsc K.1 hq_q0 hh) (fun y1 => (?_ : G m _ (6, [(0, .inl (.ref q0)), (1, .inl (.int a1)), (2, .inl (.int a2))], [.inl (.int y1)], h, 0, 0)))
  refine k_steps HG 3 (kb_eq (x := y1) (y := (0 : Int32)) ?_ ?_)
  · show G m _ (17, [(3, .inl (.int y1)), (0, .inl (.ref q0)), (1, .inl (.int a1)), (2, .inl (.int a2))], [], h, 0, 0)
    refine k_steps HG 4 (zB_iff.mpr (?_ : G m _ (21, [(3, .inl (.int y1)), (0, .inl (.ref q0)), (1, .inl (.int a1)), (2, .inl (.int a2))], [.inl (.int (0 : Int32)), .inl (.int a2), .inl (.int a1), .inl (.ref q0)], h, 0, 0)))
    refine k_cVIH HG (E' := ze_X4_firstWrong) (Or.inl ⟨rfl, rfl⟩) hsc rfl rfl rfl rfl rfl K rfl (fun hh => x_X4_firstWrong hsc K.1 hq_q0 hh) (fun y2 K2 => (?_ : G m _ (24, [(3, .inl (.int y1)), (0, .inl (.ref q0)), (1, .inl (.int a1)), (2, .inl (.int a2))], [.inl (.int y2.1)], y2.2, 0, 0)))
    refine k_steps HG 2 (kb_eq (x := y2.1) (y := (-1 : Int32)) ?_ ?_)
    · show G m _ (35, [(3, .inl (.int y1)), (0, .inl (.ref q0)), (1, .inl (.int a1)), (2, .inl (.int a2))], [], y2.2, 0, 0)
      refine k_steps HG 1 (zB_iff.mpr (?_ : G m _ (36, [(3, .inl (.int y1)), (0, .inl (.ref q0)), (1, .inl (.int a1)), (2, .inl (.int a2))], [.inl (.ref q0)], y2.2, 0, 0)))
      refine k_getR HG rfl K2 hq_q0 rfl (Nat.le_of_ble_eq_true rfl) rfl rfl (fun t3 => (?_ : G m _ (39, [(3, .inl (.int y1)), (0, .inl (.ref q0)), (1, .inl (.int a1)), (2, .inl (.int a2))], [.inl (.ref (hr y2.2 q0 0))], y2.2, 0, 0)))
      refine k_cVI HG (E' := ze_X1_standing) (Or.inl ⟨rfl, rfl⟩) hsc rfl rfl rfl rfl rfl (fun hh => x_X1_standing hsc K2.1 t3 hh) (fun y4 => (?_ : G m _ (42, [(3, .inl (.int y1)), (0, .inl (.ref q0)), (1, .inl (.int a1)), (2, .inl (.int a2))], [.inl (.int y4)], y2.2, 0, 0)))
      refine k_steps HG 1 (zB_iff.mpr (?_ : G m _ (43, [(3, .inl (.int y1)), (0, .inl (.ref q0)), (1, .inl (.int a1)), (2, .inl (.int a2))], [.inl (.ref q0), .inl (.int y4)], y2.2, 0, 0)))
      refine k_getR HG rfl K2 hq_q0 rfl (Nat.le_of_ble_eq_true rfl) rfl rfl (fun t5 => (?_ : G m _ (46, [(3, .inl (.int y1)), (0, .inl (.ref q0)), (1, .inl (.int a1)), (2, .inl (.int a2))], [.inl (.ref (hr y2.2 q0 2)), .inl (.int y4)], y2.2, 0, 0)))
      refine k_cVI HG (E' := ze_X1_standing) (Or.inl ⟨rfl, rfl⟩) hsc rfl rfl rfl rfl rfl (fun hh => x_X1_standing hsc K2.1 t5 hh) (fun y6 => (?_ : G m _ (49, [(3, .inl (.int y1)), (0, .inl (.ref q0)), (1, .inl (.int a1)), (2, .inl (.int a2))], [.inl (.int y6), .inl (.int y4)], y2.2, 0, 0)))
      refine k_steps HG 3 (zB_iff.mpr (?_ : G m _ (52, [(3, .inl (.int y1)), (0, .inl (.ref q0)), (1, .inl (.int a1)), (2, .inl (.int a2))], [.inl (.int (y4 &&& (y6 ^^^ (-1 : Int32))))], y2.2, 0, 0)))
      exact k_reti HG rfl rfl (fun e1 e2 => hR _ _ e1 e2 K2)
    · show G m _ (28, [(3, .inl (.int y1)), (0, .inl (.ref q0)), (1, .inl (.int a1)), (2, .inl (.int a2))], [], y2.2, 0, 0)
      refine k_steps HG 2 (zB_iff.mpr (?_ : G m _ (31, [(3, .inl (.int y1)), (0, .inl (.ref q0)), (1, .inl (.int a1)), (2, .inl (.int a2))], [.inl (.int (-5 : Int32)), .inl (.ref q0)], y2.2, 0, 0)))
      refine k_cVIH HG (E' := ze_X4_refuse) (Or.inl ⟨rfl, rfl⟩) hsc rfl rfl rfl rfl rfl K2 rfl (fun hh => x_X4_refuse hsc K2.1 hq_q0 hh) (fun y7 K7 => (?_ : G m _ (34, [(3, .inl (.int y1)), (0, .inl (.ref q0)), (1, .inl (.int a1)), (2, .inl (.int a2))], [.inl (.int y7.1)], y7.2, 0, 0)))
      exact k_reti HG rfl rfl (fun e1 e2 => hR _ _ e1 e2 K7)
  · show G m _ (11, [(3, .inl (.int y1)), (0, .inl (.ref q0)), (1, .inl (.int a1)), (2, .inl (.int a2))], [], h, 0, 0)
    refine k_steps HG 2 (zB_iff.mpr (?_ : G m _ (13, [(3, .inl (.int y1)), (0, .inl (.ref q0)), (1, .inl (.int a1)), (2, .inl (.int a2))], [.inl (.int y1), .inl (.ref q0)], h, 0, 0)))
    refine k_cVIH HG (E' := ze_X4_refuse) (Or.inl ⟨rfl, rfl⟩) hsc rfl rfl rfl rfl rfl K rfl (fun hh => x_X4_refuse hsc K.1 hq_q0 hh) (fun y8 K8 => (?_ : G m _ (16, [(3, .inl (.int y1)), (0, .inl (.ref q0)), (1, .inl (.int a1)), (2, .inl (.int a2))], [.inl (.int y8.1)], y8.2, 0, 0)))
    exact k_reti HG rfl rfl (fun e1 e2 => hR _ _ e1 e2 K8)
def W_X5_readAll : List (Nat × Nat) := [(5, 9), (5, 10), (5, 11), (5, 12), (5, 17), (5, 23), (5, 28), (5, 29), (5, 30), (5, 31), (5, 32), (5, 34), (31, 1000), (32, 1000), (33, 1000), (34, 1000), (35, 1000), (36, 1000), (37, 1000), (39, 1000), (40, 1000)]
noncomputable def B_X5_readAll_23 (c0 : Nat) (s : (zH)) : (zH) ⊕ (Int32 × zH) := (if (hv s c0 29) = (0 : Int32) then (Sum.inr ((1 : Int32), s)) else (if (hv s c0 29) = (3 : Int32) then (letf (F_X5_look s c0) (fun h1001 => (letf (F_X5_statement h1001 c0) (fun y1002 => (if y1002.1 = (0 : Int32) then (Sum.inr ((0 : Int32), y1002.2)) else (letf (hput y1002.2 c0 34 (.inl (.int ((hv y1002.2 c0 34) + (1 : Int32))))) (fun h1003 => (Sum.inl h1003)))))))) else (letf (F_X5_wrong s c0) (fun y1004 => (Sum.inr (y1004.1, y1004.2))))))
noncomputable def F_X5_readAll (h : zH) (q0 : Nat) : Int32 × zH := (letf (hput h q0 34 (.inl (.int (1 : Int32)))) (fun h1 => (letf (hput h1 q0 28 (.inl (.int (0 : Int32)))) (fun h2 => (letf (F_X5_look h2 q0) (fun h3 => (letf (F_X5_statement h3 q0) (fun y4 => (if y4.1 = (0 : Int32) then ((0 : Int32), y4.2) else (fx (B_X5_readAll_23 q0) (0, []) y4.2))))))))))
theorem x_X5_readAll {scr : List zV} {T : List Nat} {h : zH} {q0 : Nat} (hsc : cT scr) (K : hOK kty T h) (hq_q0 : T[q0]? = some 5) (hh : cH h) : xIH scr W_X5_readAll T T 215 [.inl (.ref q0)] h (F_X5_readAll h q0) := by
  refine xIH_intro (E := ze_X5_readAll) hsc rfl (cTb_ok rfl) hh (fun d r h' G HG Pf hR m => ?_)
  have K := kOK_refl (W := W_X5_readAll) K
  unfold F_X5_readAll
  show G m _ (0, [(0, .inl (.ref q0))], [], h, 0, 0)
  refine k_steps HG 2 (zB_iff.mpr (?_ : G m _ (2, [(0, .inl (.ref q0))], [.inl (.int (1 : Int32)), .inl (.ref q0)], h, 0, 0)))
  refine k_putI HG rfl K hq_q0 rfl rfl rfl (fun h1 K1 => (?_ : G m _ (5, [(0, .inl (.ref q0))], [], h1, 0, 0)))
  refine k_steps HG 2 (zB_iff.mpr (?_ : G m _ (7, [(0, .inl (.ref q0))], [.inl (.int (0 : Int32)), .inl (.ref q0)], h1, 0, 0)))
  refine k_putI HG rfl K1 hq_q0 rfl rfl rfl (fun h2 K2 => (?_ : G m _ (10, [(0, .inl (.ref q0))], [], h2, 0, 0)))
  refine k_steps HG 1 (zB_iff.mpr (?_ : G m _ (11, [(0, .inl (.ref q0))], [.inl (.ref q0)], h2, 0, 0)))
  refine k_cVH HG (E' := ze_X5_look) (Or.inl ⟨rfl, rfl⟩) hsc rfl rfl rfl rfl rfl K2 rfl (fun hh => x_X5_look hsc K2.1 hq_q0 hh) (fun h3 K3 => (?_ : G m _ (14, [(0, .inl (.ref q0))], [], h3, 0, 0)))
  refine k_steps HG 1 (zB_iff.mpr (?_ : G m _ (15, [(0, .inl (.ref q0))], [.inl (.ref q0)], h3, 0, 0)))
  refine k_cVIH HG (E' := ze_X5_statement) (Or.inl ⟨rfl, rfl⟩) hsc rfl rfl rfl rfl rfl K3 rfl (fun hh => x_X5_statement hsc K3.1 hq_q0 hh) (fun y4 K4 => (?_ : G m _ (18, [(0, .inl (.ref q0))], [.inl (.int y4.1)], y4.2, 0, 0)))
  refine k_steps HG 1 (kb_ne (x := y4.1) (y := (0 : Int32)) ?_ ?_)
  · show G m _ (23, [(0, .inl (.ref q0))], [], y4.2, 0, 0)
    have lp5 : ∀ m5, m5 ≤ m → ∀ (h5 : zH), kOK W_X5_readAll T T h h5 → G m5 (Pf (fx (B_X5_readAll_23 q0) (0, []) h5)) (23, [(0, .inl (.ref q0))], [], h5, 0, 0) := by
      intro m5
      induction m5 with
      | zero =>
        intros
        exact k_zero HG
      | succ m5 ih5 =>
        intro le5 h5 K5
        have le5 := Nat.le_of_succ_le le5
        have ih5 := ih5 le5
        refine k_fx ?_
        rw [B_X5_readAll_23]
        refine k_first HG 0 (zB_iff.mpr (?_ : G m5 _ (24, [(0, .inl (.ref q0))], [.inl (.ref q0)], h5, 0, 0)))
        refine k_getI HG rfl K5 hq_q0 rfl (Nat.le_of_ble_eq_true rfl) rfl (?_ : G m5 _ (27, [(0, .inl (.ref q0))], [.inl (.int (hv h5 q0 29))], h5, 0, 0))
        refine k_steps HG 1 (kb_eq (x := (hv h5 q0 29)) (y := (0 : Int32)) ?_ ?_)
        · show G m5 _ (69, [(0, .inl (.ref q0))], [], h5, 0, 0)
          refine k_steps HG 1 (zB_iff.mpr (?_ : G m5 _ (70, [(0, .inl (.ref q0))], [.inl (.int (1 : Int32))], h5, 0, 0)))
          exact k_retz HG rfl rfl (fun e1 e2 => hR _ _ e1 e2 K5)
        · show G m5 _ (30, [(0, .inl (.ref q0))], [], h5, 0, 0)
          refine k_steps HG 1 (zB_iff.mpr (?_ : G m5 _ (31, [(0, .inl (.ref q0))], [.inl (.ref q0)], h5, 0, 0)))
          refine k_getI HG rfl K5 hq_q0 rfl (Nat.le_of_ble_eq_true rfl) rfl (?_ : G m5 _ (34, [(0, .inl (.ref q0))], [.inl (.int (hv h5 q0 29))], h5, 0, 0))
          refine k_steps HG 2 (kb_eq (x := (hv h5 q0 29)) (y := (3 : Int32)) ?_ ?_)
          · show G m5 _ (43, [(0, .inl (.ref q0))], [], h5, 0, 0)
            refine k_steps HG 1 (zB_iff.mpr (?_ : G m5 _ (44, [(0, .inl (.ref q0))], [.inl (.ref q0)], h5, 0, 0)))
            refine k_cVH HG (E' := ze_X5_look) (Or.inl ⟨rfl, rfl⟩) hsc rfl rfl rfl rfl rfl K5 rfl (fun hh => x_X5_look hsc K5.1 hq_q0 hh) (fun h6 K6 => (?_ : G m5 _ (47, [(0, .inl (.ref q0))], [], h6, 0, 0)))
            refine k_steps HG 1 (zB_iff.mpr (?_ : G m5 _ (48, [(0, .inl (.ref q0))], [.inl (.ref q0)], h6, 0, 0)))
            refine k_cVIH HG (E' := ze_X5_statement) (Or.inl ⟨rfl, rfl⟩) hsc rfl rfl rfl rfl rfl K6 rfl (fun hh => x_X5_statement hsc K6.1 hq_q0 hh) (fun y7 K7 => (?_ : G m5 _ (51, [(0, .inl (.ref q0))], [.inl (.int y7.1)], y7.2, 0, 0)))
            refine k_steps HG 1 (kb_ne (x := y7.1) (y := (0 : Int32)) ?_ ?_)
            · show G m5 _ (56, [(0, .inl (.ref q0))], [], y7.2, 0, 0)
              refine k_steps HG 2 (zB_iff.mpr (?_ : G m5 _ (58, [(0, .inl (.ref q0))], [.inl (.ref q0), .inl (.ref q0)], y7.2, 0, 0)))
              refine k_getI HG rfl K7 hq_q0 rfl (Nat.le_of_ble_eq_true rfl) rfl (?_ : G m5 _ (61, [(0, .inl (.ref q0))], [.inl (.int (hv y7.2 q0 34)), .inl (.ref q0)], y7.2, 0, 0))
              refine k_steps HG 2 (zB_iff.mpr (?_ : G m5 _ (63, [(0, .inl (.ref q0))], [.inl (.int ((hv y7.2 q0 34) + (1 : Int32))), .inl (.ref q0)], y7.2, 0, 0)))
              refine k_putI HG rfl K7 hq_q0 rfl rfl rfl (fun h8 K8 => (?_ : G m5 _ (66, [(0, .inl (.ref q0))], [], h8, 0, 0)))
              refine k_steps HG 1 (zB_iff.mpr (?_ : G m5 _ (23, [(0, .inl (.ref q0))], [], h8, 0, 0)))
              exact ih5 _ K8
            · show G m5 _ (54, [(0, .inl (.ref q0))], [], y7.2, 0, 0)
              refine k_steps HG 1 (zB_iff.mpr (?_ : G m5 _ (55, [(0, .inl (.ref q0))], [.inl (.int (0 : Int32))], y7.2, 0, 0)))
              exact k_retz HG rfl rfl (fun e1 e2 => hR _ _ e1 e2 K7)
          · show G m5 _ (38, [(0, .inl (.ref q0))], [], h5, 0, 0)
            refine k_steps HG 1 (zB_iff.mpr (?_ : G m5 _ (39, [(0, .inl (.ref q0))], [.inl (.ref q0)], h5, 0, 0)))
            refine k_cVIH HG (E' := ze_X5_wrong) (Or.inl ⟨rfl, rfl⟩) hsc rfl rfl rfl rfl rfl K5 rfl (fun hh => x_X5_wrong hsc K5.1 hq_q0 hh) (fun y9 K9 => (?_ : G m5 _ (42, [(0, .inl (.ref q0))], [.inl (.int y9.1)], y9.2, 0, 0)))
            exact k_retz HG rfl rfl (fun e1 e2 => hR _ _ e1 e2 K9)
    exact lp5 m (Nat.le_refl _) _ K4
  · show G m _ (21, [(0, .inl (.ref q0))], [], y4.2, 0, 0)
    refine k_steps HG 1 (zB_iff.mpr (?_ : G m _ (22, [(0, .inl (.ref q0))], [.inl (.int (0 : Int32))], y4.2, 0, 0)))
    exact k_retz HG rfl rfl (fun e1 e2 => hR _ _ e1 e2 K4)
def W_X4_meanOfGoes : List (Nat × Nat) := [(3, 3), (3, 4), (3, 5), (3, 6), (19, 1000), (20, 1000), (21, 1000)]
noncomputable def F_X4_meanOfGoes (h : zH) (q0 : Nat) (a1 : Int32) (a2 : Int32) : Int32 × zH := (letf (F_X3_thinkOfGoes h (hr h q0 3) (hr h q0 0) a1 a2) (fun h3 => (letf (F_X3_valueNow h3 (hr h3 q0 3)) (fun y5 => (y5, h3)))))
theorem x_X4_meanOfGoes {scr : List zV} {T : List Nat} {h : zH} {q0 : Nat} {a1 : Int32} {a2 : Int32} (hsc : cT scr) (K : hOK kty T h) (hq_q0 : T[q0]? = some 4) (hh : cH h) : xIH scr W_X4_meanOfGoes T T 122 [.inl (.ref q0), .inl (.int a1), .inl (.int a2)] h (F_X4_meanOfGoes h q0 a1 a2) := by
  refine xIH_intro (E := ze_X4_meanOfGoes) hsc rfl (cTb_ok rfl) hh (fun d r h' G HG Pf hR m => ?_)
  have K := kOK_refl (W := W_X4_meanOfGoes) K
  unfold F_X4_meanOfGoes
  show G m _ (0, [(0, .inl (.ref q0)), (1, .inl (.int a1)), (2, .inl (.int a2))], [], h, 0, 0)
  refine k_steps HG 1 (zB_iff.mpr (?_ : G m _ (1, [(0, .inl (.ref q0)), (1, .inl (.int a1)), (2, .inl (.int a2))], [.inl (.ref q0)], h, 0, 0)))
  refine k_getR HG rfl K hq_q0 rfl (Nat.le_of_ble_eq_true rfl) rfl rfl (fun t1 => (?_ : G m _ (4, [(0, .inl (.ref q0)), (1, .inl (.int a1)), (2, .inl (.int a2))], [.inl (.ref (hr h q0 3))], h, 0, 0)))
  refine k_steps HG 1 (zB_iff.mpr (?_ : G m _ (5, [(0, .inl (.ref q0)), (1, .inl (.int a1)), (2, .inl (.int a2))], [.inl (.ref q0), .inl (.ref (hr h q0 3))], h, 0, 0)))
  refine k_getR HG rfl K hq_q0 rfl (Nat.le_of_ble_eq_true rfl) rfl rfl (fun t2 => (?_ : G m _ (8, [(0, .inl (.ref q0)), (1, .inl (.int a1)), (2, .inl (.int a2))], [.inl (.ref (hr h q0 0)), .inl (.ref (hr h q0 3))], h, 0, 0)))
  refine k_steps HG 2 (zB_iff.mpr (?_ : G m _ (10, [(0, .inl (.ref q0)), (1, .inl (.int a1)), (2, .inl (.int a2))], [.inl (.int a2), .inl (.int a1), .inl (.ref (hr h q0 0)), .inl (.ref (hr h q0 3))], h, 0, 0)))
  refine k_cVH HG (E' := ze_X3_thinkOfGoes) (Or.inl ⟨rfl, rfl⟩) hsc rfl rfl rfl rfl rfl K rfl (fun hh => x_X3_thinkOfGoes hsc K.1 t1 t2 hh) (fun h3 K3 => (?_ : G m _ (13, [(0, .inl (.ref q0)), (1, .inl (.int a1)), (2, .inl (.int a2))], [], h3, 0, 0)))
  refine k_steps HG 1 (zB_iff.mpr (?_ : G m _ (14, [(0, .inl (.ref q0)), (1, .inl (.int a1)), (2, .inl (.int a2))], [.inl (.ref q0)], h3, 0, 0)))
  refine k_getR HG rfl K3 hq_q0 rfl (Nat.le_of_ble_eq_true rfl) rfl rfl (fun t4 => (?_ : G m _ (17, [(0, .inl (.ref q0)), (1, .inl (.int a1)), (2, .inl (.int a2))], [.inl (.ref (hr h3 q0 3))], h3, 0, 0)))
  refine k_cVI HG (E' := ze_X3_valueNow) (Or.inl ⟨rfl, rfl⟩) hsc rfl rfl rfl rfl rfl (fun hh => x_X3_valueNow hsc K3.1 t4 hh) (fun y5 => (?_ : G m _ (20, [(0, .inl (.ref q0)), (1, .inl (.int a1)), (2, .inl (.int a2))], [.inl (.int y5)], h3, 0, 0)))
  exact k_reti HG rfl rfl (fun e1 e2 => hR _ _ e1 e2 K3)
def W_X4_plan : List (Nat × Nat) := [(3, 3), (3, 4), (3, 5), (3, 6), (19, 1000), (20, 1000), (21, 1000), (23, 1000)]
noncomputable def F_X4_plan (h : zH) (q0 : Nat) (a1 : Int32) : Int32 × zH := (letf (F_X1_isBuyer h (hr h q0 0) a1) (fun y2 => (if y2 = (0 : Int32) then (letf (F_X4_refuse h q0 (-2 : Int32)) (fun y8 => (y8.1, y8.2))) else (letf (F_X3_thinkOfAll h (hr h q0 3) (hr h q0 0) a1) (fun h5 => (letf (F_X3_valueNow h5 (hr h5 q0 3)) (fun y7 => (y7, h5))))))))
theorem x_X4_plan {scr : List zV} {T : List Nat} {h : zH} {q0 : Nat} {a1 : Int32} (hsc : cT scr) (K : hOK kty T h) (hq_q0 : T[q0]? = some 4) (hh : cH h) : xIH scr W_X4_plan T T 124 [.inl (.ref q0), .inl (.int a1)] h (F_X4_plan h q0 a1) := by
  refine xIH_intro (E := ze_X4_plan) hsc rfl (cTb_ok rfl) hh (fun d r h' G HG Pf hR m => ?_)
  have K := kOK_refl (W := W_X4_plan) K
  unfold F_X4_plan
  show G m _ (0, [(0, .inl (.ref q0)), (1, .inl (.int a1))], [], h, 0, 0)
  refine k_steps HG 1 (zB_iff.mpr (?_ : G m _ (1, [(0, .inl (.ref q0)), (1, .inl (.int a1))], [.inl (.ref q0)], h, 0, 0)))
  refine k_getR HG rfl K hq_q0 rfl (Nat.le_of_ble_eq_true rfl) rfl rfl (fun t1 => (?_ : G m _ (4, [(0, .inl (.ref q0)), (1, .inl (.int a1))], [.inl (.ref (hr h q0 0))], h, 0, 0)))
  refine k_steps HG 1 (zB_iff.mpr (?_ : G m _ (5, [(0, .inl (.ref q0)), (1, .inl (.int a1))], [.inl (.int a1), .inl (.ref (hr h q0 0))], h, 0, 0)))
  refine k_cVI HG (E' := ze_X1_isBuyer) (Or.inl ⟨rfl, rfl⟩) hsc rfl rfl rfl rfl rfl (fun hh => x_X1_isBuyer hsc K.1 t1 hh) (fun y2 => (?_ : G m _ (8, [(0, .inl (.ref q0)), (1, .inl (.int a1))], [.inl (.int y2)], h, 0, 0)))
  refine k_steps HG 1 (kb_ne (x := y2) (y := (0 : Int32)) ?_ ?_)
  · show G m _ (18, [(0, .inl (.ref q0)), (1, .inl (.int a1))], [], h, 0, 0)
    refine k_steps HG 1 (zB_iff.mpr (?_ : G m _ (19, [(0, .inl (.ref q0)), (1, .inl (.int a1))], [.inl (.ref q0)], h, 0, 0)))
    refine k_getR HG rfl K hq_q0 rfl (Nat.le_of_ble_eq_true rfl) rfl rfl (fun t3 => (?_ : G m _ (22, [(0, .inl (.ref q0)), (1, .inl (.int a1))], [.inl (.ref (hr h q0 3))], h, 0, 0)))
    refine k_steps HG 1 (zB_iff.mpr (?_ : G m _ (23, [(0, .inl (.ref q0)), (1, .inl (.int a1))], [.inl (.ref q0), .inl (.ref (hr h q0 3))], h, 0, 0)))
    refine k_getR HG rfl K hq_q0 rfl (Nat.le_of_ble_eq_true rfl) rfl rfl (fun t4 => (?_ : G m _ (26, [(0, .inl (.ref q0)), (1, .inl (.int a1))], [.inl (.ref (hr h q0 0)), .inl (.ref (hr h q0 3))], h, 0, 0)))
    refine k_steps HG 1 (zB_iff.mpr (?_ : G m _ (27, [(0, .inl (.ref q0)), (1, .inl (.int a1))], [.inl (.int a1), .inl (.ref (hr h q0 0)), .inl (.ref (hr h q0 3))], h, 0, 0)))
    refine k_cVH HG (E' := ze_X3_thinkOfAll) (Or.inl ⟨rfl, rfl⟩) hsc rfl rfl rfl rfl rfl K rfl (fun hh => x_X3_thinkOfAll hsc K.1 t3 t4 hh) (fun h5 K5 => (?_ : G m _ (30, [(0, .inl (.ref q0)), (1, .inl (.int a1))], [], h5, 0, 0)))
    refine k_steps HG 1 (zB_iff.mpr (?_ : G m _ (31, [(0, .inl (.ref q0)), (1, .inl (.int a1))], [.inl (.ref q0)], h5, 0, 0)))
    refine k_getR HG rfl K5 hq_q0 rfl (Nat.le_of_ble_eq_true rfl) rfl rfl (fun t6 => (?_ : G m _ (34, [(0, .inl (.ref q0)), (1, .inl (.int a1))], [.inl (.ref (hr h5 q0 3))], h5, 0, 0)))
    refine k_cVI HG (E' := ze_X3_valueNow) (Or.inl ⟨rfl, rfl⟩) hsc rfl rfl rfl rfl rfl (fun hh => x_X3_valueNow hsc K5.1 t6 hh) (fun y7 => (?_ : G m _ (37, [(0, .inl (.ref q0)), (1, .inl (.int a1))], [.inl (.int y7)], h5, 0, 0)))
    exact k_reti HG rfl rfl (fun e1 e2 => hR _ _ e1 e2 K5)
  · show G m _ (11, [(0, .inl (.ref q0)), (1, .inl (.int a1))], [], h, 0, 0)
    refine k_steps HG 2 (zB_iff.mpr (?_ : G m _ (14, [(0, .inl (.ref q0)), (1, .inl (.int a1))], [.inl (.int (-2 : Int32)), .inl (.ref q0)], h, 0, 0)))
    refine k_cVIH HG (E' := ze_X4_refuse) (Or.inl ⟨rfl, rfl⟩) hsc rfl rfl rfl rfl rfl K rfl (fun hh => x_X4_refuse hsc K.1 hq_q0 hh) (fun y8 K8 => (?_ : G m _ (17, [(0, .inl (.ref q0)), (1, .inl (.int a1))], [.inl (.int y8.1)], y8.2, 0, 0)))
    exact k_reti HG rfl rfl (fun e1 e2 => hR _ _ e1 e2 K8)
