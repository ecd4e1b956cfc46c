def W_X4_go : List (Nat × Nat) := [(1, 4), (1, 5), (1, 6), (1, 7), (14, 1000), (15, 1000), (16, 1000), (23, 1000)]
noncomputable def F_X4_go (h : zH) (q0 : Nat) (a1 : Int32) : Int32 × zH := (letf (F_X1_isBuyer h (hr h q0 0) a1) (fun y2 => (if y2 = (0 : Int32) then (letf (F_X4_refuse h q0 (-2 : Int32)) (fun y17 => (y17.1, y17.2))) else (if (hv h (hr h (hr h q0 0) 15) a1.toNatClampNeg) < (hv h (hr h q0 0) 2) then (letf (F_X4_refuse h q0 (-5 : Int32)) (fun y6 => (y6.1, y6.2))) else (letf (F_X1_countDrawable h (hr h q0 0)) (fun y8 => (if y8 = (0 : Int32) then (letf (F_X4_refuse h q0 (-5 : Int32)) (fun y16 => (y16.1, y16.2))) else (letf (F_X1_pay h (hr h q0 0) a1 (hv h (hr h q0 0) 2)) (fun h11 => (letf (F_X1_slipByDraw h11 (hr h11 q0 0)) (fun y13 => (letf (F_X1_draw y13.2 (hr y13.2 q0 0) y13.1 a1) (fun h15 => (y13.1, h15))))))))))))))
theorem x_X4_go {scr : List zV} {T : List Nat} {h : zH} {q0 : Nat} {a1 : Int32} (hsc : cT scr) (K : hOK kty T h) (hq_q0 : T[q0]? = some 4) (hh : cH h) : xIH scr W_X4_go T T 111 [.inl (.ref q0), .inl (.int a1)] h (F_X4_go h q0 a1) := by
  refine xIH_intro (E := ze_X4_go) hsc rfl (cTb_ok rfl) hh (fun d r h' G HG Pf hR m => ?_)
  have K := kOK_refl (W := W_X4_go) K
  unfold F_X4_go
  show G m _ (0, [(0, .inl (.ref q0)), (1, .inl (.int a1))], [], h, 0, 0)
  refine k_steps HG 1 (zB_iff.mpr (?_ : G m _ (1, [(0, .inl (.ref q0)), (1, .inl (.int a1))], [.inl (.ref q0)], h, 0, 0)))
  refine k_getR HG rfl K hq_q0 rfl (Nat.le_of_ble_eq_true rfl) rfl rfl (fun t1 => (?_ : G m _ (4, [(0, .inl (.ref q0)), (1, .inl (.int a1))], [.inl (.ref (hr h q0 0))], h, 0, 0)))
  refine k_steps HG 1 (zB_iff.mpr (?_ : G m _ (5, [(0, .inl (.ref q0)), (1, .inl (.int a1))], [.inl (.int a1), .inl (.ref (hr h q0 0))], h, 0, 0)))
  refine k_cVI HG (E' := ze_X1_isBuyer) (Or.inl ⟨rfl, rfl⟩) hsc rfl rfl rfl rfl rfl (fun hh => x_X1_isBuyer hsc K.1 t1 hh) (fun y2 => (?_ : G m _ (8, [(0, .inl (.ref q0)), (1, .inl (.int a1))], [.inl (.int y2)], h, 0, 0)))
  refine k_steps HG 1 (kb_ne (x := y2) (y := (0 : Int32)) ?_ ?_)
  · show G m _ (18, [(0, .inl (.ref q0)), (1, .inl (.int a1))], [], h, 0, 0)
    refine k_steps HG 1 (zB_iff.mpr (?_ : G m _ (19, [(0, .inl (.ref q0)), (1, .inl (.int a1))], [.inl (.ref q0)], h, 0, 0)))
    refine k_getR HG rfl K hq_q0 rfl (Nat.le_of_ble_eq_true rfl) rfl rfl (fun t3 => (?_ : G m _ (22, [(0, .inl (.ref q0)), (1, .inl (.int a1))], [.inl (.ref (hr h q0 0))], h, 0, 0)))
    refine k_getR HG rfl K t3 rfl (Nat.le_of_ble_eq_true rfl) rfl rfl (fun t4 => (?_ : G m _ (25, [(0, .inl (.ref q0)), (1, .inl (.int a1))], [.inl (.ref (hr h (hr h q0 0) 15))], h, 0, 0)))
    refine k_steps HG 1 (zB_iff.mpr (?_ : G m _ (26, [(0, .inl (.ref q0)), (1, .inl (.int a1))], [.inl (.int a1), .inl (.ref (hr h (hr h q0 0) 15))], h, 0, 0)))
    refine k_iald HG rfl K t4 rfl (fun _ => rfl) (?_ : G m _ (27, [(0, .inl (.ref q0)), (1, .inl (.int a1))], [.inl (.int (hv h (hr h (hr h q0 0) 15) a1.toNatClampNeg))], h, 0, 0))
    refine k_steps HG 1 (zB_iff.mpr (?_ : G m _ (28, [(0, .inl (.ref q0)), (1, .inl (.int a1))], [.inl (.ref q0), .inl (.int (hv h (hr h (hr h q0 0) 15) a1.toNatClampNeg))], h, 0, 0)))
    refine k_getR HG rfl K hq_q0 rfl (Nat.le_of_ble_eq_true rfl) rfl rfl (fun t5 => (?_ : G m _ (31, [(0, .inl (.ref q0)), (1, .inl (.int a1))], [.inl (.ref (hr h q0 0)), .inl (.int (hv h (hr h (hr h q0 0) 15) a1.toNatClampNeg))], h, 0, 0)))
    refine k_getI HG rfl K t5 rfl (Nat.le_of_ble_eq_true rfl) rfl (?_ : G m _ (34, [(0, .inl (.ref q0)), (1, .inl (.int a1))], [.inl (.int (hv h (hr h q0 0) 2)), .inl (.int (hv h (hr h (hr h q0 0) 15) a1.toNatClampNeg))], h, 0, 0))
    refine k_steps HG 1 (kb_lt (x := (hv h (hr h (hr h q0 0) 15) a1.toNatClampNeg)) (y := (hv h (hr h q0 0) 2)) ?_ ?_)
    · show G m _ (47, [(0, .inl (.ref q0)), (1, .inl (.int a1))], [], h, 0, 0)
      refine k_steps HG 2 (zB_iff.mpr (?_ : G m _ (50, [(0, .inl (.ref q0)), (1, .inl (.int a1))], [.inl (.int (-5 : Int32)), .inl (.ref q0)], h, 0, 0)))
      refine k_cVIH HG (E' := ze_X4_refuse) (Or.inl ⟨rfl, rfl⟩) hsc rfl rfl rfl rfl rfl K rfl (fun hh => x_X4_refuse hsc K.1 hq_q0 hh) (fun y6 K6 => (?_ : G m _ (53, [(0, .inl (.ref q0)), (1, .inl (.int a1))], [.inl (.int y6.1)], y6.2, 0, 0)))
      exact k_reti HG rfl rfl (fun e1 e2 => hR _ _ e1 e2 K6)
    · show G m _ (37, [(0, .inl (.ref q0)), (1, .inl (.int a1))], [], h, 0, 0)
      refine k_steps HG 1 (zB_iff.mpr (?_ : G m _ (38, [(0, .inl (.ref q0)), (1, .inl (.int a1))], [.inl (.ref q0)], h, 0, 0)))
      refine k_getR HG rfl K hq_q0 rfl (Nat.le_of_ble_eq_true rfl) rfl rfl (fun t7 => (?_ : G m _ (41, [(0, .inl (.ref q0)), (1, .inl (.int a1))], [.inl (.ref (hr h q0 0))], h, 0, 0)))
      refine k_cVI HG (E' := ze_X1_countDrawable) (Or.inl ⟨rfl, rfl⟩) hsc rfl rfl rfl rfl rfl (fun hh => x_X1_countDrawable hsc K.1 t7 hh) (fun y8 => (?_ : G m _ (44, [(0, .inl (.ref q0)), (1, .inl (.int a1))], [.inl (.int y8)], h, 0, 0)))
      refine k_steps HG 1 (kb_ne (x := y8) (y := (0 : Int32)) ?_ ?_)
      · show G m _ (54, [(0, .inl (.ref q0)), (1, .inl (.int a1))], [], h, 0, 0)
        refine k_steps HG 1 (zB_iff.mpr (?_ : G m _ (55, [(0, .inl (.ref q0)), (1, .inl (.int a1))], [.inl (.ref q0)], h, 0, 0)))
        refine k_getR HG rfl K hq_q0 rfl (Nat.le_of_ble_eq_true rfl) rfl rfl (fun t9 => (?_ : G m _ (58, [(0, .inl (.ref q0)), (1, .inl (.int a1))], [.inl (.ref (hr h q0 0))], h, 0, 0)))
        refine k_steps HG 2 (zB_iff.mpr (?_ : G m _ (60, [(0, .inl (.ref q0)), (1, .inl (.int a1))], [.inl (.ref q0), .inl (.int a1), .inl (.ref (hr h q0 0))], h, 0, 0)))
        refine k_getR HG rfl K hq_q0 rfl (Nat.le_of_ble_eq_true rfl) rfl rfl (fun t10 => (?_ : G m _ (63, [(0, .inl (.ref q0)), (1, .inl (.int a1))], [.inl (.ref (hr h q0 0)), .inl (.int a1), .inl (.ref (hr h q0 0))], h, 0, 0)))
        refine k_getI HG rfl K t10 rfl (Nat.le_of_ble_eq_true rfl) rfl (?_ : G m _ (66, [(0, .inl (.ref q0)), (1, .inl (.int a1))], [.inl (.int (hv h (hr h q0 0) 2)), .inl (.int a1), .inl (.ref (hr h q0 0))], h, 0, 0))
        refine k_cVH HG (E' := ze_X1_pay) (Or.inl ⟨rfl, rfl⟩) hsc rfl rfl rfl rfl rfl K rfl (fun hh => x_X1_pay hsc K.1 t10 hh) (fun h11 K11 => (?_ : G m _ (69, [(0, .inl (.ref q0)), (1, .inl (.int a1))], [], h11, 0, 0)))
        refine k_steps HG 1 (zB_iff.mpr (?_ : G m _ (70, [(0, .inl (.ref q0)), (1, .inl (.int a1))], [.inl (.ref q0)], h11, 0, 0)))
        refine k_getR HG rfl K11 hq_q0 rfl (Nat.le_of_ble_eq_true rfl) rfl rfl (fun t12 => (?_ : G m _ (73, [(0, .inl (.ref q0)), (1, .inl (.int a1))], [.inl (.ref (hr h11 q0 0))], h11, 0, 0)))
        refine k_cVIH HG (E' := ze_X1_slipByDraw) (Or.inl ⟨rfl, rfl⟩) hsc rfl rfl rfl rfl rfl K11 rfl (fun hh => x_X1_slipByDraw hsc K11.1 t12 hh) (fun y13 K13 => (?_ : G m _ (76, [(0, .inl (.ref q0)), (1, .inl (.int a1))], [.inl (.int y13.1)], y13.2, 0, 0)))
        refine k_steps HG 2 (zB_iff.mpr (?_ : G m _ (78, [(2, .inl (.int y13.1)), (0, .inl (.ref q0)), (1, .inl (.int a1))], [.inl (.ref q0)], y13.2, 0, 0)))
        refine k_getR HG rfl K13 hq_q0 rfl (Nat.le_of_ble_eq_true rfl) rfl rfl (fun t14 => (?_ : G m _ (81, [(2, .inl (.int y13.1)), (0, .inl (.ref q0)), (1, .inl (.int a1))], [.inl (.ref (hr y13.2 q0 0))], y13.2, 0, 0)))
        refine k_steps HG 2 (zB_iff.mpr (?_ : G m _ (83, [(2, .inl (.int y13.1)), (0, .inl (.ref q0)), (1, .inl (.int a1))], [.inl (.int a1), .inl (.int y13.1), .inl (.ref (hr y13.2 q0 0))], y13.2, 0, 0)))
        refine k_cVH HG (E' := ze_X1_draw) (Or.inl ⟨rfl, rfl⟩) hsc rfl rfl rfl rfl rfl K13 rfl (fun hh => x_X1_draw hsc K13.1 t14 hh) (fun h15 K15 => (?_ : G m _ (86, [(2, .inl (.int y13.1)), (0, .inl (.ref q0)), (1, .inl (.int a1))], [], h15, 0, 0)))
        refine k_steps HG 1 (zB_iff.mpr (?_ : G m _ (87, [(2, .inl (.int y13.1)), (0, .inl (.ref q0)), (1, .inl (.int a1))], [.inl (.int y13.1)], h15, 0, 0)))
        exact k_reti HG rfl rfl (fun e1 e2 => hR _ _ e1 e2 K15)
      · show G m _ (47, [(0, .inl (.ref q0)), (1, .inl (.int a1))], [], h, 0, 0)
        refine k_steps HG 2 (zB_iff.mpr (?_ : G m _ (50, [(0, .inl (.ref q0)), (1, .inl (.int a1))], [.inl (.int (-5 : Int32)), .inl (.ref q0)], h, 0, 0)))
        refine k_cVIH HG (E' := ze_X4_refuse) (Or.inl ⟨rfl, rfl⟩) hsc rfl rfl rfl rfl rfl K rfl (fun hh => x_X4_refuse hsc K.1 hq_q0 hh) (fun y16 K16 => (?_ : G m _ (53, [(0, .inl (.ref q0)), (1, .inl (.int a1))], [.inl (.int y16.1)], y16.2, 0, 0)))
        exact k_reti HG rfl rfl (fun e1 e2 => hR _ _ e1 e2 K16)
  · show G m _ (11, [(0, .inl (.ref q0)), (1, .inl (.int a1))], [], h, 0, 0)
    refine k_steps HG 2 (zB_iff.mpr (?_ : G m _ (14, [(0, .inl (.ref q0)), (1, .inl (.int a1))], [.inl (.int (-2 : Int32)), .inl (.ref q0)], h, 0, 0)))
    refine k_cVIH HG (E' := ze_X4_refuse) (Or.inl ⟨rfl, rfl⟩) hsc rfl rfl rfl rfl rfl K rfl (fun hh => x_X4_refuse hsc K.1 hq_q0 hh) (fun y17 K17 => (?_ : G m _ (17, [(0, .inl (.ref q0)), (1, .inl (.int a1))], [.inl (.int y17.1)], y17.2, 0, 0)))
    exact k_reti HG rfl rfl (fun e1 e2 => hR _ _ e1 e2 K17)
def W_X4_worth : List (Nat × Nat) := [(23, 1000)]
noncomputable def F_X4_worth (h : zH) (q0 : Nat) (a1 : Int32) : Int32 × zH := (letf (F_X1_isBuyer h (hr h q0 0) a1) (fun y2 => (if y2 = (0 : Int32) then (letf (F_X4_refuse h q0 (-2 : Int32)) (fun y3 => (y3.1, y3.2))) else (letf (F_X1_worthOfGo h (hr h q0 0) a1) (fun y5 => (y5, h))))))
theorem x_X4_worth {scr : List zV} {T : List Nat} {h : zH} {q0 : Nat} {a1 : Int32} (hsc : cT scr) (K : hOK kty T h) (hq_q0 : T[q0]? = some 4) (hh : cH h) : xIH scr W_X4_worth T T 151 [.inl (.ref q0), .inl (.int a1)] h (F_X4_worth h q0 a1) := by
  refine xIH_intro (E := ze_X4_worth) hsc rfl (cTb_ok rfl) hh (fun d r h' G HG Pf hR m => ?_)
  have K := kOK_refl (W := W_X4_worth) K
  unfold F_X4_worth
  show G m _ (0, [(0, .inl (.ref q0)), (1, .inl (.int a1))], [], h, 0, 0)
  refine k_steps HG 1 (zB_iff.mpr (?_ : G m _ (1, [(0, .inl (.ref q0)), (1, .inl (.int a1))], [.inl (.ref q0)], h, 0, 0)))
  refine k_getR HG rfl K hq_q0 rfl (Nat.le_of_ble_eq_true rfl) rfl rfl (fun t1 => (?_ : G m _ (4, [(0, .inl (.ref q0)), (1, .inl (.int a1))], [.inl (.ref (hr h q0 0))], h, 0, 0)))
  refine k_steps HG 1 (zB_iff.mpr (?_ : G m _ (5, [(0, .inl (.ref q0)), (1, .inl (.int a1))], [.inl (.int a1), .inl (.ref (hr h q0 0))], h, 0, 0)))
  refine k_cVI HG (E' := ze_X1_isBuyer) (Or.inl ⟨rfl, rfl⟩) hsc rfl rfl rfl rfl rfl (fun hh => x_X1_isBuyer hsc K.1 t1 hh) (fun y2 => (?_ : G m _ (8, [(0, .inl (.ref q0)), (1, .inl (.int a1))], [.inl (.int y2)], h, 0, 0)))
  refine k_steps HG 1 (kb_eq (x := y2) (y := (0 : Int32)) ?_ ?_)
  · show G m _ (22, [(0, .inl (.ref q0)), (1, .inl (.int a1))], [], h, 0, 0)
    refine k_steps HG 2 (zB_iff.mpr (?_ : G m _ (25, [(0, .inl (.ref q0)), (1, .inl (.int a1))], [.inl (.int (-2 : Int32)), .inl (.ref q0)], h, 0, 0)))
    refine k_cVIH HG (E' := ze_X4_refuse) (Or.inl ⟨rfl, rfl⟩) hsc rfl rfl rfl rfl rfl K rfl (fun hh => x_X4_refuse hsc K.1 hq_q0 hh) (fun y3 K3 => (?_ : G m _ (28, [(0, .inl (.ref q0)), (1, .inl (.int a1))], [.inl (.int y3.1)], y3.2, 0, 0)))
    exact k_reti HG rfl rfl (fun e1 e2 => hR _ _ e1 e2 K3)
  · show G m _ (11, [(0, .inl (.ref q0)), (1, .inl (.int a1))], [], h, 0, 0)
    refine k_steps HG 1 (zB_iff.mpr (?_ : G m _ (12, [(0, .inl (.ref q0)), (1, .inl (.int a1))], [.inl (.ref q0)], h, 0, 0)))
    refine k_getR HG rfl K hq_q0 rfl (Nat.le_of_ble_eq_true rfl) rfl rfl (fun t4 => (?_ : G m _ (15, [(0, .inl (.ref q0)), (1, .inl (.int a1))], [.inl (.ref (hr h q0 0))], h, 0, 0)))
    refine k_steps HG 1 (zB_iff.mpr (?_ : G m _ (16, [(0, .inl (.ref q0)), (1, .inl (.int a1))], [.inl (.int a1), .inl (.ref (hr h q0 0))], h, 0, 0)))
    refine k_cVI HG (E' := ze_X1_worthOfGo) (Or.inl ⟨rfl, rfl⟩) hsc rfl rfl rfl rfl rfl (fun hh => x_X1_worthOfGo hsc K.1 t4 hh) (fun y5 => (?_ : G m _ (19, [(0, .inl (.ref q0)), (1, .inl (.int a1))], [.inl (.int y5)], h, 0, 0)))
    refine k_steps HG 1 (zB_iff.mpr (?_ : G m _ (28, [(0, .inl (.ref q0)), (1, .inl (.int a1))], [.inl (.int y5)], h, 0, 0)))
    exact k_reti HG rfl rfl (fun e1 e2 => hR _ _ e1 e2 K)
noncomputable def B_X5_bestPrice_6 (h : zH) (c0 : Nat) (s : (Int32 × Int32 × Int32)) : (Int32 × Int32 × Int32) ⊕ (Int32) := (if (95 : Int32) < s.2.2 then (Sum.inr s.1) else (letf (F_X5_takingsAt h c0 s.2.2) (fun y1001 => (if s.2.1 < y1001 then (if s.2.1 < y1001 then (Sum.inl (s.2.2, y1001, (s.2.2 + (5 : Int32)))) else (Sum.inl (s.2.2, s.2.1, (s.2.2 + (5 : Int32))))) else (if s.2.1 < y1001 then (Sum.inl (s.1, y1001, (s.2.2 + (5 : Int32)))) else (Sum.inl (s.1, s.2.1, (s.2.2 + (5 : Int32)))))))))
noncomputable def F_X5_bestPrice (h : zH) (q0 : Nat) : Int32 := (fx (B_X5_bestPrice_6 h q0) 0 ((0 : Int32), (-1 : Int32), (5 : Int32)))
theorem x_X5_bestPrice {scr : List zV} {T : List Nat} {h : zH} {q0 : Nat} (hsc : cT scr) (K : hOK kty T h) (hq_q0 : T[q0]? = some 5) (hh : cH h) : xI scr 160 [.inl (.ref q0)] h (F_X5_bestPrice h q0) := by
  refine xI_intro (E := ze_X5_bestPrice) hsc rfl (cTb_ok rfl) hh (fun d r h' G HG Pf hR m => ?_)
  have K := kOK_refl (W := []) K
  unfold F_X5_bestPrice
  show G m _ (0, [(0, .inl (.ref q0))], [], h, 0, 0)
  refine k_steps HG 6 (zB_iff.mpr (?_ : G m _ (6, [(3, .inl (.int (5 : Int32))), (2, .inl (.int (-1 : Int32))), (1, .inl (.int (0 : Int32))), (0, .inl (.ref q0))], [], h, 0, 0)))
  have lp1 : ∀ m1, m1 ≤ m → ∀ (d1_4 : Int32) (v1_1 : Int32) (v1_2 : Int32) (v1_3 : Int32), G m1 (Pf (fx (B_X5_bestPrice_6 h q0) 0 (v1_1, v1_2, v1_3))) (6, [(0, .inl (.ref q0)), (1, .inl (.int v1_1)), (2, .inl (.int v1_2)), (3, .inl (.int v1_3)), (4, .inl (.int d1_4))], [], h, 0, 0) := by
    intro m1
    induction m1 with
    | zero =>
      intros
      exact k_zero HG
    | succ m1 ih1 =>
      intro le1 d1_4 v1_1 v1_2 v1_3
      have le1 := Nat.le_of_succ_le le1
      have ih1 := ih1 le1
      refine k_fx ?_
      rw [B_X5_bestPrice_6]
      refine k_first HG 2 (kb_gt (x := v1_3) (y := (95 : Int32)) ?_ ?_)
      · show G m1 _ (50, [(0, .inl (.ref q0)), (1, .inl (.int v1_1)), (2, .inl (.int v1_2)), (3, .inl (.int v1_3)), (4, .inl (.int d1_4))], [], h, 0, 0)
        refine k_steps HG 1 (zB_iff.mpr (?_ : G m1 _ (51, [(0, .inl (.ref q0)), (1, .inl (.int v1_1)), (2, .inl (.int v1_2)), (3, .inl (.int v1_3)), (4, .inl (.int d1_4))], [.inl (.int v1_1)], h, 0, 0)))
        exact k_reti HG rfl rfl (fun e1 e2 => hR _ e1 e2)
      · show G m1 _ (12, [(0, .inl (.ref q0)), (1, .inl (.int v1_1)), (2, .inl (.int v1_2)), (3, .inl (.int v1_3)), (4, .inl (.int d1_4))], [], h, 0, 0)
        refine k_steps HG 2 (zB_iff.mpr (?_ : G m1 _ (14, [(0, .inl (.ref q0)), (1, .inl (.int v1_1)), (2, .inl (.int v1_2)), (3, .inl (.int v1_3)), (4, .inl (.int d1_4))], [.inl (.int v1_3), .inl (.ref q0)], h, 0, 0)))
        refine k_cVI HG (E' := ze_X5_takingsAt) (Or.inl ⟨rfl, rfl⟩) hsc rfl rfl rfl rfl rfl (fun hh => x_X5_takingsAt hsc K.1 hq_q0 hh) (fun y2 => (?_ : G m1 _ (17, [(0, .inl (.ref q0)), (1, .inl (.int v1_1)), (2, .inl (.int v1_2)), (3, .inl (.int v1_3)), (4, .inl (.int d1_4))], [.inl (.int y2)], h, 0, 0)))
        refine k_steps HG 4 (kb_le (x := y2) (y := v1_2) ?_ ?_)
        · show G m1 _ (29, [(4, .inl (.int y2)), (0, .inl (.ref q0)), (1, .inl (.int v1_1)), (2, .inl (.int v1_2)), (3, .inl (.int v1_3))], [], h, 0, 0)
          refine k_steps HG 5 (kb_le (x := y2) (y := v1_2) ?_ ?_)
          · show G m1 _ (42, [(1, .inl (.int v1_1)), (4, .inl (.int y2)), (0, .inl (.ref q0)), (2, .inl (.int v1_2)), (3, .inl (.int v1_3))], [], h, 0, 0)
            refine k_steps HG 4 (zB_iff.mpr (?_ : G m1 _ (6, [(3, .inl (.int (v1_3 + (5 : Int32)))), (2, .inl (.int v1_2)), (1, .inl (.int v1_1)), (4, .inl (.int y2)), (0, .inl (.ref q0))], [], h, 0, 0)))
            refine k_ext HG (L' := [(0, .inl (.ref q0)), (1, .inl (.int v1_1)), (2, .inl (.int v1_2)), (3, .inl (.int (v1_3 + (5 : Int32)))), (4, .inl (.int y2))]) rfl rfl ⟨rfl, rfl, rfl, rfl, rfl, trivial⟩ ?_
            exact ih1 _ _ _ _
          · show G m1 _ (37, [(1, .inl (.int v1_1)), (4, .inl (.int y2)), (0, .inl (.ref q0)), (2, .inl (.int v1_2)), (3, .inl (.int v1_3))], [], h, 0, 0)
            refine k_steps HG 5 (zB_iff.mpr (?_ : G m1 _ (6, [(3, .inl (.int (v1_3 + (5 : Int32)))), (2, .inl (.int y2)), (1, .inl (.int v1_1)), (4, .inl (.int y2)), (0, .inl (.ref q0))], [], h, 0, 0)))
            refine k_ext HG (L' := [(0, .inl (.ref q0)), (1, .inl (.int v1_1)), (2, .inl (.int y2)), (3, .inl (.int (v1_3 + (5 : Int32)))), (4, .inl (.int y2))]) rfl rfl ⟨rfl, rfl, rfl, rfl, rfl, trivial⟩ ?_
            exact ih1 _ _ _ _
        · show G m1 _ (25, [(4, .inl (.int y2)), (0, .inl (.ref q0)), (1, .inl (.int v1_1)), (2, .inl (.int v1_2)), (3, .inl (.int v1_3))], [], h, 0, 0)
          refine k_steps HG 6 (kb_le (x := y2) (y := v1_2) ?_ ?_)
          · show G m1 _ (42, [(1, .inl (.int v1_3)), (4, .inl (.int y2)), (0, .inl (.ref q0)), (2, .inl (.int v1_2)), (3, .inl (.int v1_3))], [], h, 0, 0)
            refine k_steps HG 4 (zB_iff.mpr (?_ : G m1 _ (6, [(3, .inl (.int (v1_3 + (5 : Int32)))), (2, .inl (.int v1_2)), (1, .inl (.int v1_3)), (4, .inl (.int y2)), (0, .inl (.ref q0))], [], h, 0, 0)))
            refine k_ext HG (L' := [(0, .inl (.ref q0)), (1, .inl (.int v1_3)), (2, .inl (.int v1_2)), (3, .inl (.int (v1_3 + (5 : Int32)))), (4, .inl (.int y2))]) rfl rfl ⟨rfl, rfl, rfl, rfl, rfl, trivial⟩ ?_
            exact ih1 _ _ _ _
          · show G m1 _ (37, [(1, .inl (.int v1_3)), (4, .inl (.int y2)), (0, .inl (.ref q0)), (2, .inl (.int v1_2)), (3, .inl (.int v1_3))], [], h, 0, 0)
            refine k_steps HG 5 (zB_iff.mpr (?_ : G m1 _ (6, [(3, .inl (.int (v1_3 + (5 : Int32)))), (2, .inl (.int y2)), (1, .inl (.int v1_3)), (4, .inl (.int y2)), (0, .inl (.ref q0))], [], h, 0, 0)))
            refine k_ext HG (L' := [(0, .inl (.ref q0)), (1, .inl (.int v1_3)), (2, .inl (.int y2)), (3, .inl (.int (v1_3 + (5 : Int32)))), (4, .inl (.int y2))]) rfl rfl ⟨rfl, rfl, rfl, rfl, rfl, trivial⟩ ?_
            exact ih1 _ _ _ _
  refine k_ext HG (L' := [(0, .inl (.ref q0)), (1, .inl (.int (0 : Int32))), (2, .inl (.int (-1 : Int32))), (3, .inl (.int (5 : Int32))), (4, .inl (.int (0 : Int32)))]) rfl rfl ⟨rfl, rfl, rfl, rfl, trivial⟩ ?_
  exact lp1 m (Nat.le_refl _) _ _ _ _
def W_X5_go : List (Nat × Nat) := [(5, 13), (5, 14), (5, 15), (30, 1000), (31, 1000), (35, 1000), (36, 1000), (37, 1000)]
noncomputable def F_X5_go (h : zH) (q0 : Nat) (a1 : Int32) : Int32 × zH := (letf (F_X5_isBuyer h q0 a1) (fun y1 => (if y1 = (0 : Int32) then (letf (F_X5_refuse h q0 (-2 : Int32)) (fun y7 => (y7.1, y7.2))) else (if (hv h (hr h q0 24) a1.toNatClampNeg) < (hv h q0 11) then (letf (F_X5_refuse h q0 (-5 : Int32)) (fun y3 => (y3.1, y3.2))) else (letf (F_X5_drawableMany h q0) (fun y4 => (if y4 = (0 : Int32) then (letf (F_X5_refuse h q0 (-5 : Int32)) (fun y6 => (y6.1, y6.2))) else (letf (F_X5_goesOne h q0 a1) (fun y5 => (y5.1, y5.2))))))))))
theorem x_X5_go {scr : List zV} {T : List Nat} {h : zH} {q0 : Nat} {a1 : Int32} (hsc : cT scr) (K : hOK kty T h) (hq_q0 : T[q0]? = some 5) (hh : cH h) : xIH scr W_X5_go T T 186 [.inl (.ref q0), .inl (.int a1)] h (F_X5_go h q0 a1) := by
  refine xIH_intro (E := ze_X5_go) hsc rfl (cTb_ok rfl) hh (fun d r h' G HG Pf hR m => ?_)
  have K := kOK_refl (W := W_X5_go) K
  unfold F_X5_go
  show G m _ (0, [(0, .inl (.ref q0)), (1, .inl (.int a1))], [], h, 0, 0)
  refine k_steps HG 2 (zB_iff.mpr (?_ : G m _ (2, [(0, .inl (.ref q0)), (1, .inl (.int a1))], [.inl (.int a1), .inl (.ref q0)], h, 0, 0)))
  refine k_cVI HG (E' := ze_X5_isBuyer) (Or.inl ⟨rfl, rfl⟩) hsc rfl rfl rfl rfl rfl (fun hh => x_X5_isBuyer hsc K.1 hq_q0 hh) (fun y1 => (?_ : G m _ (5, [(0, .inl (.ref q0)), (1, .inl (.int a1))], [.inl (.int y1)], h, 0, 0)))
  refine k_steps HG 1 (kb_ne (x := y1) (y := (0 : Int32)) ?_ ?_)
  · show G m _ (15, [(0, .inl (.ref q0)), (1, .inl (.int a1))], [], h, 0, 0)
    refine k_steps HG 1 (zB_iff.mpr (?_ : G m _ (16, [(0, .inl (.ref q0)), (1, .inl (.int a1))], [.inl (.ref q0)], h, 0, 0)))
    refine k_getR HG rfl K hq_q0 rfl (Nat.le_of_ble_eq_true rfl) rfl rfl (fun t2 => (?_ : G m _ (19, [(0, .inl (.ref q0)), (1, .inl (.int a1))], [.inl (.ref (hr h q0 24))], h, 0, 0)))
    refine k_steps HG 1 (zB_iff.mpr (?_ : G m _ (20, [(0, .inl (.ref q0)), (1, .inl (.int a1))], [.inl (.int a1), .inl (.ref (hr h q0 24))], h, 0, 0)))
    refine k_iald HG rfl K t2 rfl (fun _ => rfl) (?_ : G m _ (21, [(0, .inl (.ref q0)), (1, .inl (.int a1))], [.inl (.int (hv h (hr h q0 24) a1.toNatClampNeg))], h, 0, 0))
    refine k_steps HG 1 (zB_iff.mpr (?_ : G m _ (22, [(0, .inl (.ref q0)), (1, .inl (.int a1))], [.inl (.ref q0), .inl (.int (hv h (hr h q0 24) a1.toNatClampNeg))], h, 0, 0)))
    refine k_getI HG rfl K hq_q0 rfl (Nat.le_of_ble_eq_true rfl) rfl (?_ : G m _ (25, [(0, .inl (.ref q0)), (1, .inl (.int a1))], [.inl (.int (hv h q0 11)), .inl (.int (hv h (hr h q0 24) a1.toNatClampNeg))], h, 0, 0))
    refine k_steps HG 1 (kb_lt (x := (hv h (hr h q0 24) a1.toNatClampNeg)) (y := (hv h q0 11)) ?_ ?_)
    · show G m _ (35, [(0, .inl (.ref q0)), (1, .inl (.int a1))], [], h, 0, 0)
      refine k_steps HG 2 (zB_iff.mpr (?_ : G m _ (38, [(0, .inl (.ref q0)), (1, .inl (.int a1))], [.inl (.int (-5 : Int32)), .inl (.ref q0)], h, 0, 0)))
      refine k_cVIH HG (E' := ze_X5_refuse) (Or.inl ⟨rfl, rfl⟩) hsc rfl rfl rfl rfl rfl K rfl (fun hh => x_X5_refuse hsc K.1 hq_q0 hh) (fun y3 K3 => (?_ : G m _ (41, [(0, .inl (.ref q0)), (1, .inl (.int a1))], [.inl (.int y3.1)], y3.2, 0, 0)))
      exact k_reti HG rfl rfl (fun e1 e2 => hR _ _ e1 e2 K3)
    · show G m _ (28, [(0, .inl (.ref q0)), (1, .inl (.int a1))], [], h, 0, 0)
      refine k_steps HG 1 (zB_iff.mpr (?_ : G m _ (29, [(0, .inl (.ref q0)), (1, .inl (.int a1))], [.inl (.ref q0)], h, 0, 0)))
      refine k_cVI HG (E' := ze_X5_drawableMany) (Or.inl ⟨rfl, rfl⟩) hsc rfl rfl rfl rfl rfl (fun hh => x_X5_drawableMany hsc K.1 hq_q0 hh) (fun y4 => (?_ : G m _ (32, [(0, .inl (.ref q0)), (1, .inl (.int a1))], [.inl (.int y4)], h, 0, 0)))
      refine k_steps HG 1 (kb_ne (x := y4) (y := (0 : Int32)) ?_ ?_)
      · show G m _ (42, [(0, .inl (.ref q0)), (1, .inl (.int a1))], [], h, 0, 0)
        refine k_steps HG 2 (zB_iff.mpr (?_ : G m _ (44, [(0, .inl (.ref q0)), (1, .inl (.int a1))], [.inl (.int a1), .inl (.ref q0)], h, 0, 0)))
        refine k_cVIH HG (E' := ze_X5_goesOne) (Or.inl ⟨rfl, rfl⟩) hsc rfl rfl rfl rfl rfl K rfl (fun hh => x_X5_goesOne hsc K.1 hq_q0 hh) (fun y5 K5 => (?_ : G m _ (47, [(0, .inl (.ref q0)), (1, .inl (.int a1))], [.inl (.int y5.1)], y5.2, 0, 0)))
        exact k_reti HG rfl rfl (fun e1 e2 => hR _ _ e1 e2 K5)
      · show G m _ (35, [(0, .inl (.ref q0)), (1, .inl (.int a1))], [], h, 0, 0)
        refine k_steps HG 2 (zB_iff.mpr (?_ : G m _ (38, [(0, .inl (.ref q0)), (1, .inl (.int a1))], [.inl (.int (-5 : Int32)), .inl (.ref q0)], h, 0, 0)))
        refine k_cVIH HG (E' := ze_X5_refuse) (Or.inl ⟨rfl, rfl⟩) hsc rfl rfl rfl rfl rfl K rfl (fun hh => x_X5_refuse hsc K.1 hq_q0 hh) (fun y6 K6 => (?_ : G m _ (41, [(0, .inl (.ref q0)), (1, .inl (.int a1))], [.inl (.int y6.1)], y6.2, 0, 0)))
        exact k_reti HG rfl rfl (fun e1 e2 => hR _ _ e1 e2 K6)
  · show G m _ (8, [(0, .inl (.ref q0)), (1, .inl (.int a1))], [], h, 0, 0)
    refine k_steps HG 2 (zB_iff.mpr (?_ : G m _ (11, [(0, .inl (.ref q0)), (1, .inl (.int a1))], [.inl (.int (-2 : Int32)), .inl (.ref q0)], h, 0, 0)))
    refine k_cVIH HG (E' := ze_X5_refuse) (Or.inl ⟨rfl, rfl⟩) hsc rfl rfl rfl rfl rfl K rfl (fun hh => x_X5_refuse hsc K.1 hq_q0 hh) (fun y7 K7 => (?_ : G m _ (14, [(0, .inl (.ref q0)), (1, .inl (.int a1))], [.inl (.int y7.1)], y7.2, 0, 0)))
    exact k_reti HG rfl rfl (fun e1 e2 => hR _ _ e1 e2 K7)
def W_X5_statement : List (Nat × Nat) := [(5, 9), (5, 10), (5, 11), (5, 12), (5, 17), (5, 23), (5, 28), (5, 29), (5, 30), (5, 31), (5, 32), (31, 1000), (32, 1000), (33, 1000), (34, 1000), (35, 1000), (36, 1000), (37, 1000), (39, 1000), (40, 1000)]
noncomputable def J_X5_statement_j264 (h : zH) (c0 : Nat) (s0 : Int32) : Int32 × zH := (s0, h)
theorem w_X5_statement_j264 {scr : List zV} {T0 T : List Nat} {d m : Nat} {r : Option zV} {h' h h0 : zH} {G : Nat → Prop → zS → Prop} {Pf : Int32 × zH → Prop} {c0 : Nat} {s0 : Int32} (HG : G = GL ze_X5_statement scr (zEc ze_X5_statement) (zEs ze_X5_statement) (zD zprog scr d) r h') (hsc : cT scr) (hR : ∀ y hh, some (.inl (.int y)) = r → hh = h' → kOK W_X5_statement T0 T h0 hh → Pf (y, hh)) (K : kOK W_X5_statement T0 T h0 h) (hq_c0 : T[c0]? = some 5) : G m (Pf (J_X5_statement_j264 h c0 s0)) (264, [(0, .inl (.ref c0))], [.inl (.int s0)], h, 0, 0) := by
  unfold J_X5_statement_j264
  exact k_retz HG rfl rfl (fun e1 e2 => hR _ _ e1 e2 K)
noncomputable def J_X5_statement_j216 (h : zH) (c0 : Nat) : Int32 × zH := ((0 : Int32), h)
theorem w_X5_statement_j216 {scr : List zV} {T0 T : List Nat} {d m : Nat} {r : Option zV} {h' h h0 : zH} {G : Nat → Prop → zS → Prop} {Pf : Int32 × zH → Prop} {c0 : Nat} (HG : G = GL ze_X5_statement scr (zEc ze_X5_statement) (zEs ze_X5_statement) (zD zprog scr d) r h') (hsc : cT scr) (hR : ∀ y hh, some (.inl (.int y)) = r → hh = h' → kOK W_X5_statement T0 T h0 hh → Pf (y, hh)) (K : kOK W_X5_statement T0 T h0 h) (hq_c0 : T[c0]? = some 5) : G m (Pf (J_X5_statement_j216 h c0)) (216, [(0, .inl (.ref c0))], [], h, 0, 0) := by
  unfold J_X5_statement_j216
  refine k_steps HG 1 (zB_iff.mpr (?_ : G m _ (217, [(0, .inl (.ref c0))], [.inl (.int (0 : Int32))], h, 0, 0)))
  exact k_retz HG rfl rfl (fun e1 e2 => hR _ _ e1 e2 K)
noncomputable def J_X5_statement_j166 (h : zH) (c0 : Nat) : Int32 × zH := (letf (F_X5_isWord h c0 1000005) (fun y21601 => (if y21601 = (0 : Int32) then (letf (F_X5_isWord h c0 1000006) (fun y21602 => (if y21602 = (0 : Int32) then (letf (F_X5_wrong h c0) (fun y21603 => (J_X5_statement_j264 y21603.2 c0 y21603.1))) else (letf (F_X5_outTold h c0) (fun y21604 => (J_X5_statement_j264 y21604.2 c0 y21604.1)))))) else (letf (F_X5_tells h c0 (0 : Int32) ((hv h c0 23) - (1 : Int32))) (fun y21605 => (if y21605.1 = (0 : Int32) then (J_X5_statement_j216 y21605.2 c0) else (letf (F_X5_number y21605.2 c0 (1 : Int32) (0 : Int32) ((hv y21605.2 c0 17) - (1 : Int32))) (fun y21606 => (if y21606.1 = (0 : Int32) then (J_X5_statement_j216 y21606.2 c0) else (letf (F_X5_number y21606.2 c0 (2 : Int32) (0 : Int32) (999 : Int32)) (fun y21607 => (if y21607.1 = (0 : Int32) then (J_X5_statement_j216 y21607.2 c0) else (letf (hput y21607.2 (hr y21607.2 (hr y21607.2 c0 25) (hv y21607.2 (hr y21607.2 c0 33) (0 : Int32).toNatClampNeg).toNatClampNeg) (hv y21607.2 (hr y21607.2 c0 33) (1 : Int32).toNatClampNeg).toNatClampNeg (.inl (.int (hv y21607.2 (hr y21607.2 c0 33) (2 : Int32).toNatClampNeg)))) (fun h21613 => ((1 : Int32), h21613)))))))))))))))
theorem w_X5_statement_j166 {scr : List zV} {T0 T : List Nat} {d m : Nat} {r : Option zV} {h' h h0 : zH} {G : Nat → Prop → zS → Prop} {Pf : Int32 × zH → Prop} {c0 : Nat} (HG : G = GL ze_X5_statement scr (zEc ze_X5_statement) (zEs ze_X5_statement) (zD zprog scr d) r h') (hsc : cT scr) (hR : ∀ y hh, some (.inl (.int y)) = r → hh = h' → kOK W_X5_statement T0 T h0 hh → Pf (y, hh)) (K : kOK W_X5_statement T0 T h0 h) (hq_c0 : T[c0]? = some 5) : G m (Pf (J_X5_statement_j166 h c0)) (166, [(0, .inl (.ref c0))], [], h, 0, 0) := by
  unfold J_X5_statement_j166
  refine k_steps HG 2 (zB_iff.mpr (?_ : G m _ (169, [(0, .inl (.ref c0))], [.inl (.ref 1000005), .inl (.ref c0)], h, 0, 0)))
  refine k_cVI HG (E' := ze_X5_isWord) (Or.inl ⟨rfl, rfl⟩) hsc rfl rfl rfl rfl rfl (fun hh => x_X5_isWord hsc K.1 hq_c0 hh) (fun y21601 => (?_ : G m _ (172, [(0, .inl (.ref c0))], [.inl (.int y21601)], h, 0, 0)))
  refine k_steps HG 1 (kb_eq (x := y21601) (y := (0 : Int32)) ?_ ?_)
  · show G m _ (244, [(0, .inl (.ref c0))], [], h, 0, 0)
    refine k_steps HG 2 (zB_iff.mpr (?_ : G m _ (247, [(0, .inl (.ref c0))], [.inl (.ref 1000006), .inl (.ref c0)], h, 0, 0)))
    refine k_cVI HG (E' := ze_X5_isWord) (Or.inl ⟨rfl, rfl⟩) hsc rfl rfl rfl rfl rfl (fun hh => x_X5_isWord hsc K.1 hq_c0 hh) (fun y21602 => (?_ : G m _ (250, [(0, .inl (.ref c0))], [.inl (.int y21602)], h, 0, 0)))
    refine k_steps HG 1 (kb_eq (x := y21602) (y := (0 : Int32)) ?_ ?_)
    · show G m _ (260, [(0, .inl (.ref c0))], [], h, 0, 0)
      refine k_steps HG 1 (zB_iff.mpr (?_ : G m _ (261, [(0, .inl (.ref c0))], [.inl (.ref c0)], h, 0, 0)))
      refine k_cVIH HG (E' := ze_X5_wrong) (Or.inl ⟨rfl, rfl⟩) hsc rfl rfl rfl rfl rfl K rfl (fun hh => x_X5_wrong hsc K.1 hq_c0 hh) (fun y21603 K21603 => (?_ : G m _ (264, [(0, .inl (.ref c0))], [.inl (.int y21603.1)], y21603.2, 0, 0)))
      exact w_X5_statement_j264 HG hsc hR K21603 hq_c0
    · show G m _ (253, [(0, .inl (.ref c0))], [], h, 0, 0)
      refine k_steps HG 1 (zB_iff.mpr (?_ : G m _ (254, [(0, .inl (.ref c0))], [.inl (.ref c0)], h, 0, 0)))
      refine k_cVIH HG (E' := ze_X5_outTold) (Or.inl ⟨rfl, rfl⟩) hsc rfl rfl rfl rfl rfl K rfl (fun hh => x_X5_outTold hsc K.1 hq_c0 hh) (fun y21604 K21604 => (?_ : G m _ (257, [(0, .inl (.ref c0))], [.inl (.int y21604.1)], y21604.2, 0, 0)))
      refine k_steps HG 1 (zB_iff.mpr (?_ : G m _ (264, [(0, .inl (.ref c0))], [.inl (.int y21604.1)], y21604.2, 0, 0)))
      exact w_X5_statement_j264 HG hsc hR K21604 hq_c0
  · show G m _ (175, [(0, .inl (.ref c0))], [], h, 0, 0)
    refine k_steps HG 3 (zB_iff.mpr (?_ : G m _ (178, [(0, .inl (.ref c0))], [.inl (.ref c0), .inl (.int (0 : Int32)), .inl (.ref c0)], h, 0, 0)))
    refine k_getI HG rfl K hq_c0 rfl (Nat.le_of_ble_eq_true rfl) rfl (?_ : G m _ (181, [(0, .inl (.ref c0))], [.inl (.int (hv h c0 23)), .inl (.int (0 : Int32)), .inl (.ref c0)], h, 0, 0))
    refine k_steps HG 2 (zB_iff.mpr (?_ : G m _ (183, [(0, .inl (.ref c0))], [.inl (.int ((hv h c0 23) - (1 : Int32))), .inl (.int (0 : Int32)), .inl (.ref c0)], h, 0, 0)))
    refine k_cVIH HG (E' := ze_X5_tells) (Or.inl ⟨rfl, rfl⟩) hsc rfl rfl rfl rfl rfl K rfl (fun hh => x_X5_tells hsc K.1 hq_c0 hh) (fun y21605 K21605 => (?_ : G m _ (186, [(0, .inl (.ref c0))], [.inl (.int y21605.1)], y21605.2, 0, 0)))
    refine k_steps HG 1 (kb_eq (x := y21605.1) (y := (0 : Int32)) ?_ ?_)
    · show G m _ (216, [(0, .inl (.ref c0))], [], y21605.2, 0, 0)
      exact w_X5_statement_j216 HG hsc hR K21605 hq_c0
    · show G m _ (189, [(0, .inl (.ref c0))], [], y21605.2, 0, 0)
      refine k_steps HG 4 (zB_iff.mpr (?_ : G m _ (193, [(0, .inl (.ref c0))], [.inl (.ref c0), .inl (.int (0 : Int32)), .inl (.int (1 : Int32)), .inl (.ref c0)], y21605.2, 0, 0)))
      refine k_getI HG rfl K21605 hq_c0 rfl (Nat.le_of_ble_eq_true rfl) rfl (?_ : G m _ (196, [(0, .inl (.ref c0))], [.inl (.int (hv y21605.2 c0 17)), .inl (.int (0 : Int32)), .inl (.int (1 : Int32)), .inl (.ref c0)], y21605.2, 0, 0))
      refine k_steps HG 2 (zB_iff.mpr (?_ : G m _ (198, [(0, .inl (.ref c0))], [.inl (.int ((hv y21605.2 c0 17) - (1 : Int32))), .inl (.int (0 : Int32)), .inl (.int (1 : Int32)), .inl (.ref c0)], y21605.2, 0, 0)))
      refine k_cVIH HG (E' := ze_X5_number) (Or.inl ⟨rfl, rfl⟩) hsc rfl rfl rfl rfl rfl K21605 rfl (fun hh => x_X5_number hsc K21605.1 hq_c0 hh) (fun y21606 K21606 => (?_ : G m _ (201, [(0, .inl (.ref c0))], [.inl (.int y21606.1)], y21606.2, 0, 0)))
      refine k_steps HG 1 (kb_eq (x := y21606.1) (y := (0 : Int32)) ?_ ?_)
      · show G m _ (216, [(0, .inl (.ref c0))], [], y21606.2, 0, 0)
        exact w_X5_statement_j216 HG hsc hR K21606 hq_c0
      · show G m _ (204, [(0, .inl (.ref c0))], [], y21606.2, 0, 0)
        refine k_steps HG 4 (zB_iff.mpr (?_ : G m _ (210, [(0, .inl (.ref c0))], [.inl (.int (999 : Int32)), .inl (.int (0 : Int32)), .inl (.int (2 : Int32)), .inl (.ref c0)], y21606.2, 0, 0)))
        refine k_cVIH HG (E' := ze_X5_number) (Or.inl ⟨rfl, rfl⟩) hsc rfl rfl rfl rfl rfl K21606 rfl (fun hh => x_X5_number hsc K21606.1 hq_c0 hh) (fun y21607 K21607 => (?_ : G m _ (213, [(0, .inl (.ref c0))], [.inl (.int y21607.1)], y21607.2, 0, 0)))
        refine k_steps HG 1 (kb_ne (x := y21607.1) (y := (0 : Int32)) ?_ ?_)
        · show G m _ (218, [(0, .inl (.ref c0))], [], y21607.2, 0, 0)
          refine k_steps HG 1 (zB_iff.mpr (?_ : G m _ (219, [(0, .inl (.ref c0))], [.inl (.ref c0)], y21607.2, 0, 0)))
          refine k_getR HG rfl K21607 hq_c0 rfl (Nat.le_of_ble_eq_true rfl) rfl rfl (fun t21608 => (?_ : G m _ (222, [(0, .inl (.ref c0))], [.inl (.ref (hr y21607.2 c0 25))], y21607.2, 0, 0)))
          refine k_steps HG 1 (zB_iff.mpr (?_ : G m _ (223, [(0, .inl (.ref c0))], [.inl (.ref c0), .inl (.ref (hr y21607.2 c0 25))], y21607.2, 0, 0)))
          refine k_getR HG rfl K21607 hq_c0 rfl (Nat.le_of_ble_eq_true rfl) rfl rfl (fun t21609 => (?_ : G m _ (226, [(0, .inl (.ref c0))], [.inl (.ref (hr y21607.2 c0 33)), .inl (.ref (hr y21607.2 c0 25))], y21607.2, 0, 0)))
          refine k_steps HG 1 (zB_iff.mpr (?_ : G m _ (227, [(0, .inl (.ref c0))], [.inl (.int (0 : Int32)), .inl (.ref (hr y21607.2 c0 33)), .inl (.ref (hr y21607.2 c0 25))], y21607.2, 0, 0)))
          refine k_iald HG rfl K21607 t21609 rfl (fun _ => rfl) (?_ : G m _ (228, [(0, .inl (.ref c0))], [.inl (.int (hv y21607.2 (hr y21607.2 c0 33) (0 : Int32).toNatClampNeg)), .inl (.ref (hr y21607.2 c0 25))], y21607.2, 0, 0))
          refine k_aald HG rfl K21607 t21608 (fun _ => ⟨rfl, rfl⟩) (fun t21610 => (?_ : G m _ (229, [(0, .inl (.ref c0))], [.inl (.ref (hr y21607.2 (hr y21607.2 c0 25) (hv y21607.2 (hr y21607.2 c0 33) (0 : Int32).toNatClampNeg).toNatClampNeg))], y21607.2, 0, 0)))
          refine k_steps HG 1 (zB_iff.mpr (?_ : G m _ (230, [(0, .inl (.ref c0))], [.inl (.ref c0), .inl (.ref (hr y21607.2 (hr y21607.2 c0 25) (hv y21607.2 (hr y21607.2 c0 33) (0 : Int32).toNatClampNeg).toNatClampNeg))], y21607.2, 0, 0)))
          refine k_getR HG rfl K21607 hq_c0 rfl (Nat.le_of_ble_eq_true rfl) rfl rfl (fun t21611 => (?_ : G m _ (233, [(0, .inl (.ref c0))], [.inl (.ref (hr y21607.2 c0 33)), .inl (.ref (hr y21607.2 (hr y21607.2 c0 25) (hv y21607.2 (hr y21607.2 c0 33) (0 : Int32).toNatClampNeg).toNatClampNeg))], y21607.2, 0, 0)))
          refine k_steps HG 1 (zB_iff.mpr (?_ : G m _ (234, [(0, .inl (.ref c0))], [.inl (.int (1 : Int32)), .inl (.ref (hr y21607.2 c0 33)), .inl (.ref (hr y21607.2 (hr y21607.2 c0 25) (hv y21607.2 (hr y21607.2 c0 33) (0 : Int32).toNatClampNeg).toNatClampNeg))], y21607.2, 0, 0)))
          refine k_iald HG rfl K21607 t21611 rfl (fun _ => rfl) (?_ : G m _ (235, [(0, .inl (.ref c0))], [.inl (.int (hv y21607.2 (hr y21607.2 c0 33) (1 : Int32).toNatClampNeg)), .inl (.ref (hr y21607.2 (hr y21607.2 c0 25) (hv y21607.2 (hr y21607.2 c0 33) (0 : Int32).toNatClampNeg).toNatClampNeg))], y21607.2, 0, 0))
          refine k_steps HG 1 (zB_iff.mpr (?_ : G m _ (236, [(0, .inl (.ref c0))], [.inl (.ref c0), .inl (.int (hv y21607.2 (hr y21607.2 c0 33) (1 : Int32).toNatClampNeg)), .inl (.ref (hr y21607.2 (hr y21607.2 c0 25) (hv y21607.2 (hr y21607.2 c0 33) (0 : Int32).toNatClampNeg).toNatClampNeg))], y21607.2, 0, 0)))
          refine k_getR HG rfl K21607 hq_c0 rfl (Nat.le_of_ble_eq_true rfl) rfl rfl (fun t21612 => (?_ : G m _ (239, [(0, .inl (.ref c0))], [.inl (.ref (hr y21607.2 c0 33)), .inl (.int (hv y21607.2 (hr y21607.2 c0 33) (1 : Int32).toNatClampNeg)), .inl (.ref (hr y21607.2 (hr y21607.2 c0 25) (hv y21607.2 (hr y21607.2 c0 33) (0 : Int32).toNatClampNeg).toNatClampNeg))], y21607.2, 0, 0)))
          refine k_steps HG 1 (zB_iff.mpr (?_ : G m _ (240, [(0, .inl (.ref c0))], [.inl (.int (2 : Int32)), .inl (.ref (hr y21607.2 c0 33)), .inl (.int (hv y21607.2 (hr y21607.2 c0 33) (1 : Int32).toNatClampNeg)), .inl (.ref (hr y21607.2 (hr y21607.2 c0 25) (hv y21607.2 (hr y21607.2 c0 33) (0 : Int32).toNatClampNeg).toNatClampNeg))], y21607.2, 0, 0)))
          refine k_iald HG rfl K21607 t21612 rfl (fun _ => rfl) (?_ : G m _ (241, [(0, .inl (.ref c0))], [.inl (.int (hv y21607.2 (hr y21607.2 c0 33) (2 : Int32).toNatClampNeg)), .inl (.int (hv y21607.2 (hr y21607.2 c0 33) (1 : Int32).toNatClampNeg)), .inl (.ref (hr y21607.2 (hr y21607.2 c0 25) (hv y21607.2 (hr y21607.2 c0 33) (0 : Int32).toNatClampNeg).toNatClampNeg))], y21607.2, 0, 0))
          refine k_iast HG rfl K21607 t21610 rfl (fun _ => rfl) rfl (fun h21613 K21613 => (?_ : G m _ (242, [(0, .inl (.ref c0))], [], h21613, 0, 0)))
          refine k_steps HG 1 (zB_iff.mpr (?_ : G m _ (243, [(0, .inl (.ref c0))], [.inl (.int (1 : Int32))], h21613, 0, 0)))
          exact k_retz HG rfl rfl (fun e1 e2 => hR _ _ e1 e2 K21613)
        · show G m _ (216, [(0, .inl (.ref c0))], [], y21607.2, 0, 0)
          exact w_X5_statement_j216 HG hsc hR K21607 hq_c0
noncomputable def J_X5_statement_j164 (h : zH) (c0 : Nat) (c1 : Int32) : Int32 × zH := (c1, h)
theorem w_X5_statement_j164 {scr : List zV} {T0 T : List Nat} {d m : Nat} {r : Option zV} {h' h h0 : zH} {G : Nat → Prop → zS → Prop} {Pf : Int32 × zH → Prop} {c0 : Nat} {c1 : Int32} (HG : G = GL ze_X5_statement scr (zEc ze_X5_statement) (zEs ze_X5_statement) (zD zprog scr d) r h') (hsc : cT scr) (hR : ∀ y hh, some (.inl (.int y)) = r → hh = h' → kOK W_X5_statement T0 T h0 hh → Pf (y, hh)) (K : kOK W_X5_statement T0 T h0 h) (hq_c0 : T[c0]? = some 5) : G m (Pf (J_X5_statement_j164 h c0 c1)) (164, [(0, .inl (.ref c0)), (1, .inl (.int c1))], [], h, 0, 0) := by
  unfold J_X5_statement_j164
  refine k_steps HG 1 (zB_iff.mpr (?_ : G m _ (165, [(0, .inl (.ref c0)), (1, .inl (.int c1))], [.inl (.int c1)], h, 0, 0)))
  exact k_retz HG rfl rfl (fun e1 e2 => hR _ _ e1 e2 K)
noncomputable def J_X5_statement_j124 (h : zH) (c0 : Nat) : Int32 × zH := (letf (F_X5_isWord h c0 1000004) (fun y17401 => (if y17401 = (0 : Int32) then (J_X5_statement_j166 h c0) else (if (hv h c0 23) < (4 : Int32) then (letf (F_X5_tells h c0 (0 : Int32) (9999 : Int32)) (fun y17402 => (if y17402.1 = (0 : Int32) then (J_X5_statement_j164 y17402.2 c0 y17402.1) else (letf (F_X5_addBuyer y17402.2 c0 (hv y17402.2 (hr y17402.2 c0 33) (0 : Int32).toNatClampNeg)) (fun h17404 => (J_X5_statement_j164 h17404 c0 y17402.1)))))) else (J_X5_statement_j166 h c0)))))
theorem w_X5_statement_j124 {scr : List zV} {T0 T : List Nat} {d m : Nat} {r : Option zV} {h' h h0 : zH} {G : Nat → Prop → zS → Prop} {Pf : Int32 × zH → Prop} {c0 : Nat} (HG : G = GL ze_X5_statement scr (zEc ze_X5_statement) (zEs ze_X5_statement) (zD zprog scr d) r h') (hsc : cT scr) (hR : ∀ y hh, some (.inl (.int y)) = r → hh = h' → kOK W_X5_statement T0 T h0 hh → Pf (y, hh)) (K : kOK W_X5_statement T0 T h0 h) (hq_c0 : T[c0]? = some 5) : G m (Pf (J_X5_statement_j124 h c0)) (124, [(0, .inl (.ref c0))], [], h, 0, 0) := by
  unfold J_X5_statement_j124
  refine k_steps HG 2 (zB_iff.mpr (?_ : G m _ (127, [(0, .inl (.ref c0))], [.inl (.ref 1000004), .inl (.ref c0)], h, 0, 0)))
  refine k_cVI HG (E' := ze_X5_isWord) (Or.inl ⟨rfl, rfl⟩) hsc rfl rfl rfl rfl rfl (fun hh => x_X5_isWord hsc K.1 hq_c0 hh) (fun y17401 => (?_ : G m _ (130, [(0, .inl (.ref c0))], [.inl (.int y17401)], h, 0, 0)))
  refine k_steps HG 1 (kb_eq (x := y17401) (y := (0 : Int32)) ?_ ?_)
  · show G m _ (166, [(0, .inl (.ref c0))], [], h, 0, 0)
    exact w_X5_statement_j166 HG hsc hR K hq_c0
  · show G m _ (133, [(0, .inl (.ref c0))], [], h, 0, 0)
    refine k_steps HG 1 (zB_iff.mpr (?_ : G m _ (134, [(0, .inl (.ref c0))], [.inl (.ref c0)], h, 0, 0)))
    refine k_getI HG rfl K hq_c0 rfl (Nat.le_of_ble_eq_true rfl) rfl (?_ : G m _ (137, [(0, .inl (.ref c0))], [.inl (.int (hv h c0 23))], h, 0, 0))
    refine k_steps HG 2 (kb_ge (x := (hv h c0 23)) (y := (4 : Int32)) ?_ ?_)
    · show G m _ (166, [(0, .inl (.ref c0))], [], h, 0, 0)
      exact w_X5_statement_j166 HG hsc hR K hq_c0
    · show G m _ (141, [(0, .inl (.ref c0))], [], h, 0, 0)
      refine k_steps HG 3 (zB_iff.mpr (?_ : G m _ (146, [(0, .inl (.ref c0))], [.inl (.int (9999 : Int32)), .inl (.int (0 : Int32)), .inl (.ref c0)], h, 0, 0)))
      refine k_cVIH HG (E' := ze_X5_tells) (Or.inl ⟨rfl, rfl⟩) hsc rfl rfl rfl rfl rfl K rfl (fun hh => x_X5_tells hsc K.1 hq_c0 hh) (fun y17402 K17402 => (?_ : G m _ (149, [(0, .inl (.ref c0))], [.inl (.int y17402.1)], y17402.2, 0, 0)))
      refine k_steps HG 3 (kb_eq (x := y17402.1) (y := (0 : Int32)) ?_ ?_)
      · show G m _ (164, [(1, .inl (.int y17402.1)), (0, .inl (.ref c0))], [], y17402.2, 0, 0)
        refine k_ext HG (L' := [(0, .inl (.ref c0)), (1, .inl (.int y17402.1))]) rfl rfl ⟨rfl, rfl, trivial⟩ ?_
        exact w_X5_statement_j164 HG hsc hR K17402 hq_c0
      · show G m _ (154, [(1, .inl (.int y17402.1)), (0, .inl (.ref c0))], [], y17402.2, 0, 0)
        refine k_steps HG 2 (zB_iff.mpr (?_ : G m _ (156, [(1, .inl (.int y17402.1)), (0, .inl (.ref c0))], [.inl (.ref c0), .inl (.ref c0)], y17402.2, 0, 0)))
        refine k_getR HG rfl K17402 hq_c0 rfl (Nat.le_of_ble_eq_true rfl) rfl rfl (fun t17403 => (?_ : G m _ (159, [(1, .inl (.int y17402.1)), (0, .inl (.ref c0))], [.inl (.ref (hr y17402.2 c0 33)), .inl (.ref c0)], y17402.2, 0, 0)))
        refine k_steps HG 1 (zB_iff.mpr (?_ : G m _ (160, [(1, .inl (.int y17402.1)), (0, .inl (.ref c0))], [.inl (.int (0 : Int32)), .inl (.ref (hr y17402.2 c0 33)), .inl (.ref c0)], y17402.2, 0, 0)))
        refine k_iald HG rfl K17402 t17403 rfl (fun _ => rfl) (?_ : G m _ (161, [(1, .inl (.int y17402.1)), (0, .inl (.ref c0))], [.inl (.int (hv y17402.2 (hr y17402.2 c0 33) (0 : Int32).toNatClampNeg)), .inl (.ref c0)], y17402.2, 0, 0))
        refine k_cVH HG (E' := ze_X5_addBuyer) (Or.inl ⟨rfl, rfl⟩) hsc rfl rfl rfl rfl rfl K17402 rfl (fun hh => x_X5_addBuyer hsc K17402.1 hq_c0 hh) (fun h17404 K17404 => (?_ : G m _ (164, [(1, .inl (.int y17402.1)), (0, .inl (.ref c0))], [], h17404, 0, 0)))
        refine k_ext HG (L' := [(0, .inl (.ref c0)), (1, .inl (.int y17402.1))]) rfl rfl ⟨rfl, rfl, trivial⟩ ?_
        exact w_X5_statement_j164 HG hsc hR K17404 hq_c0
noncomputable def J_X5_statement_j87 (h : zH) (c0 : Nat) : Int32 × zH := (letf (F_X5_isWord h c0 1000002) (fun y13701 => (if y13701 = (0 : Int32) then (letf (F_X5_isWord h c0 1000003) (fun y13702 => (if y13702 = (0 : Int32) then (J_X5_statement_j124 h c0) else (if (hv h c0 17) < (8 : Int32) then (letf (F_X5_thingTold h c0) (fun y13703 => (y13703.1, y13703.2))) else (J_X5_statement_j124 h c0))))) else (letf (F_X5_priceTold h c0) (fun y13704 => (y13704.1, y13704.2))))))
theorem w_X5_statement_j87 {scr : List zV} {T0 T : List Nat} {d m : Nat} {r : Option zV} {h' h h0 : zH} {G : Nat → Prop → zS → Prop} {Pf : Int32 × zH → Prop} {c0 : Nat} (HG : G = GL ze_X5_statement scr (zEc ze_X5_statement) (zEs ze_X5_statement) (zD zprog scr d) r h') (hsc : cT scr) (hR : ∀ y hh, some (.inl (.int y)) = r → hh = h' → kOK W_X5_statement T0 T h0 hh → Pf (y, hh)) (K : kOK W_X5_statement T0 T h0 h) (hq_c0 : T[c0]? = some 5) : G m (Pf (J_X5_statement_j87 h c0)) (87, [(0, .inl (.ref c0))], [], h, 0, 0) := by
  unfold J_X5_statement_j87
  refine k_steps HG 2 (zB_iff.mpr (?_ : G m _ (90, [(0, .inl (.ref c0))], [.inl (.ref 1000002), .inl (.ref c0)], h, 0, 0)))
  refine k_cVI HG (E' := ze_X5_isWord) (Or.inl ⟨rfl, rfl⟩) hsc rfl rfl rfl rfl rfl (fun hh => x_X5_isWord hsc K.1 hq_c0 hh) (fun y13701 => (?_ : G m _ (93, [(0, .inl (.ref c0))], [.inl (.int y13701)], h, 0, 0)))
  refine k_steps HG 1 (kb_eq (x := y13701) (y := (0 : Int32)) ?_ ?_)
  · show G m _ (101, [(0, .inl (.ref c0))], [], h, 0, 0)
    refine k_steps HG 2 (zB_iff.mpr (?_ : G m _ (104, [(0, .inl (.ref c0))], [.inl (.ref 1000003), .inl (.ref c0)], h, 0, 0)))
    refine k_cVI HG (E' := ze_X5_isWord) (Or.inl ⟨rfl, rfl⟩) hsc rfl rfl rfl rfl rfl (fun hh => x_X5_isWord hsc K.1 hq_c0 hh) (fun y13702 => (?_ : G m _ (107, [(0, .inl (.ref c0))], [.inl (.int y13702)], h, 0, 0)))
    refine k_steps HG 1 (kb_eq (x := y13702) (y := (0 : Int32)) ?_ ?_)
    · show G m _ (124, [(0, .inl (.ref c0))], [], h, 0, 0)
      exact w_X5_statement_j124 HG hsc hR K hq_c0
    · show G m _ (110, [(0, .inl (.ref c0))], [], h, 0, 0)
      refine k_steps HG 1 (zB_iff.mpr (?_ : G m _ (111, [(0, .inl (.ref c0))], [.inl (.ref c0)], h, 0, 0)))
      refine k_getI HG rfl K hq_c0 rfl (Nat.le_of_ble_eq_true rfl) rfl (?_ : G m _ (114, [(0, .inl (.ref c0))], [.inl (.int (hv h c0 17))], h, 0, 0))
      refine k_steps HG 2 (kb_ge (x := (hv h c0 17)) (y := (8 : Int32)) ?_ ?_)
      · show G m _ (124, [(0, .inl (.ref c0))], [], h, 0, 0)
        exact w_X5_statement_j124 HG hsc hR K hq_c0
      · show G m _ (119, [(0, .inl (.ref c0))], [], h, 0, 0)
        refine k_steps HG 1 (zB_iff.mpr (?_ : G m _ (120, [(0, .inl (.ref c0))], [.inl (.ref c0)], h, 0, 0)))
        refine k_cVIH HG (E' := ze_X5_thingTold) (Or.inl ⟨rfl, rfl⟩) hsc rfl rfl rfl rfl rfl K rfl (fun hh => x_X5_thingTold hsc K.1 hq_c0 hh) (fun y13703 K13703 => (?_ : G m _ (123, [(0, .inl (.ref c0))], [.inl (.int y13703.1)], y13703.2, 0, 0)))
        exact k_retz HG rfl rfl (fun e1 e2 => hR _ _ e1 e2 K13703)
  · show G m _ (96, [(0, .inl (.ref c0))], [], h, 0, 0)
    refine k_steps HG 1 (zB_iff.mpr (?_ : G m _ (97, [(0, .inl (.ref c0))], [.inl (.ref c0)], h, 0, 0)))
    refine k_cVIH HG (E' := ze_X5_priceTold) (Or.inl ⟨rfl, rfl⟩) hsc rfl rfl rfl rfl rfl K rfl (fun hh => x_X5_priceTold hsc K.1 hq_c0 hh) (fun y13704 K13704 => (?_ : G m _ (100, [(0, .inl (.ref c0))], [.inl (.int y13704.1)], y13704.2, 0, 0)))
    exact k_retz HG rfl rfl (fun e1 e2 => hR _ _ e1 e2 K13704)
noncomputable def J_X5_statement_j82 (h : zH) (c0 : Nat) (c1 : Int32) (s0 : Int32) (s1 : Nat) : Int32 × zH := (letf (hput h s1 10 (.inl (.int s0))) (fun h13201 => (c1, h13201)))
theorem w_X5_statement_j82 {scr : List zV} {T0 T : List Nat} {d m : Nat} {r : Option zV} {h' h h0 : zH} {G : Nat → Prop → zS → Prop} {Pf : Int32 × zH → Prop} {c0 : Nat} {c1 : Int32} {s0 : Int32} {s1 : Nat} (HG : G = GL ze_X5_statement scr (zEc ze_X5_statement) (zEs ze_X5_statement) (zD zprog scr d) r h') (hsc : cT scr) (hR : ∀ y hh, some (.inl (.int y)) = r → hh = h' → kOK W_X5_statement T0 T h0 hh → Pf (y, hh)) (K : kOK W_X5_statement T0 T h0 h) (hq_c0 : T[c0]? = some 5) (hq_s1 : T[s1]? = some 5) : G m (Pf (J_X5_statement_j82 h c0 c1 s0 s1)) (82, [(0, .inl (.ref c0)), (1, .inl (.int c1))], [.inl (.int s0), .inl (.ref s1)], h, 0, 0) := by
  unfold J_X5_statement_j82
  refine k_putI HG rfl K hq_s1 rfl rfl rfl (fun h13201 K13201 => (?_ : G m _ (85, [(0, .inl (.ref c0)), (1, .inl (.int c1))], [], h13201, 0, 0)))
  refine k_steps HG 1 (zB_iff.mpr (?_ : G m _ (86, [(0, .inl (.ref c0)), (1, .inl (.int c1))], [.inl (.int c1)], h13201, 0, 0)))
  exact k_retz HG rfl rfl (fun e1 e2 => hR _ _ e1 e2 K13201)
noncomputable def J_X5_statement_j40 (h : zH) (c0 : Nat) : Int32 × zH := (letf (F_X5_isWord h c0 1000001) (fun y9001 => (if y9001 = (0 : Int32) then (J_X5_statement_j87 h c0) else (if (hv h c0 17) = (0 : Int32) then (letf (F_X5_tells h c0 (2 : Int32) (10 : Int32)) (fun y9002 => (if y9002.1 = (0 : Int32) then (J_X5_statement_j82 y9002.2 c0 y9002.1 (hv y9002.2 c0 10) c0) else (J_X5_statement_j82 y9002.2 c0 y9002.1 (hv y9002.2 (hr y9002.2 c0 33) (0 : Int32).toNatClampNeg) c0)))) else (J_X5_statement_j87 h c0)))))
theorem w_X5_statement_j40 {scr : List zV} {T0 T : List Nat} {d m : Nat} {r : Option zV} {h' h h0 : zH} {G : Nat → Prop → zS → Prop} {Pf : Int32 × zH → Prop} {c0 : Nat} (HG : G = GL ze_X5_statement scr (zEc ze_X5_statement) (zEs ze_X5_statement) (zD zprog scr d) r h') (hsc : cT scr) (hR : ∀ y hh, some (.inl (.int y)) = r → hh = h' → kOK W_X5_statement T0 T h0 hh → Pf (y, hh)) (K : kOK W_X5_statement T0 T h0 h) (hq_c0 : T[c0]? = some 5) : G m (Pf (J_X5_statement_j40 h c0)) (40, [(0, .inl (.ref c0))], [], h, 0, 0) := by
  unfold J_X5_statement_j40
  refine k_steps HG 2 (zB_iff.mpr (?_ : G m _ (43, [(0, .inl (.ref c0))], [.inl (.ref 1000001), .inl (.ref c0)], h, 0, 0)))
  refine k_cVI HG (E' := ze_X5_isWord) (Or.inl ⟨rfl, rfl⟩) hsc rfl rfl rfl rfl rfl (fun hh => x_X5_isWord hsc K.1 hq_c0 hh) (fun y9001 => (?_ : G m _ (46, [(0, .inl (.ref c0))], [.inl (.int y9001)], h, 0, 0)))
  refine k_steps HG 1 (kb_eq (x := y9001) (y := (0 : Int32)) ?_ ?_)
  · show G m _ (87, [(0, .inl (.ref c0))], [], h, 0, 0)
    exact w_X5_statement_j87 HG hsc hR K hq_c0
  · show G m _ (49, [(0, .inl (.ref c0))], [], h, 0, 0)
    refine k_steps HG 1 (zB_iff.mpr (?_ : G m _ (50, [(0, .inl (.ref c0))], [.inl (.ref c0)], h, 0, 0)))
    refine k_getI HG rfl K hq_c0 rfl (Nat.le_of_ble_eq_true rfl) rfl (?_ : G m _ (53, [(0, .inl (.ref c0))], [.inl (.int (hv h c0 17))], h, 0, 0))
    refine k_steps HG 1 (kb_ne (x := (hv h c0 17)) (y := (0 : Int32)) ?_ ?_)
    · show G m _ (87, [(0, .inl (.ref c0))], [], h, 0, 0)
      exact w_X5_statement_j87 HG hsc hR K hq_c0
    · show G m _ (56, [(0, .inl (.ref c0))], [], h, 0, 0)
      refine k_steps HG 3 (zB_iff.mpr (?_ : G m _ (60, [(0, .inl (.ref c0))], [.inl (.int (10 : Int32)), .inl (.int (2 : Int32)), .inl (.ref c0)], h, 0, 0)))
      refine k_cVIH HG (E' := ze_X5_tells) (Or.inl ⟨rfl, rfl⟩) hsc rfl rfl rfl rfl rfl K rfl (fun hh => x_X5_tells hsc K.1 hq_c0 hh) (fun y9002 K9002 => (?_ : G m _ (63, [(0, .inl (.ref c0))], [.inl (.int y9002.1)], y9002.2, 0, 0)))
      refine k_steps HG 4 (kb_eq (x := y9002.1) (y := (0 : Int32)) ?_ ?_)
      · show G m _ (78, [(1, .inl (.int y9002.1)), (0, .inl (.ref c0))], [.inl (.ref c0)], y9002.2, 0, 0)
        refine k_steps HG 1 (zB_iff.mpr (?_ : G m _ (79, [(1, .inl (.int y9002.1)), (0, .inl (.ref c0))], [.inl (.ref c0), .inl (.ref c0)], y9002.2, 0, 0)))
        refine k_getI HG rfl K9002 hq_c0 rfl (Nat.le_of_ble_eq_true rfl) rfl (?_ : G m _ (82, [(1, .inl (.int y9002.1)), (0, .inl (.ref c0))], [.inl (.int (hv y9002.2 c0 10)), .inl (.ref c0)], y9002.2, 0, 0))
        refine k_ext HG (L' := [(0, .inl (.ref c0)), (1, .inl (.int y9002.1))]) rfl rfl ⟨rfl, rfl, trivial⟩ ?_
        exact w_X5_statement_j82 HG hsc hR K9002 hq_c0 hq_c0
      · show G m _ (69, [(1, .inl (.int y9002.1)), (0, .inl (.ref c0))], [.inl (.ref c0)], y9002.2, 0, 0)
        refine k_steps HG 1 (zB_iff.mpr (?_ : G m _ (70, [(1, .inl (.int y9002.1)), (0, .inl (.ref c0))], [.inl (.ref c0), .inl (.ref c0)], y9002.2, 0, 0)))
        refine k_getR HG rfl K9002 hq_c0 rfl (Nat.le_of_ble_eq_true rfl) rfl rfl (fun t9003 => (?_ : G m _ (73, [(1, .inl (.int y9002.1)), (0, .inl (.ref c0))], [.inl (.ref (hr y9002.2 c0 33)), .inl (.ref c0)], y9002.2, 0, 0)))
        refine k_steps HG 1 (zB_iff.mpr (?_ : G m _ (74, [(1, .inl (.int y9002.1)), (0, .inl (.ref c0))], [.inl (.int (0 : Int32)), .inl (.ref (hr y9002.2 c0 33)), .inl (.ref c0)], y9002.2, 0, 0)))
        refine k_iald HG rfl K9002 t9003 rfl (fun _ => rfl) (?_ : G m _ (75, [(1, .inl (.int y9002.1)), (0, .inl (.ref c0))], [.inl (.int (hv y9002.2 (hr y9002.2 c0 33) (0 : Int32).toNatClampNeg)), .inl (.ref c0)], y9002.2, 0, 0))
        refine k_steps HG 1 (zB_iff.mpr (?_ : G m _ (82, [(1, .inl (.int y9002.1)), (0, .inl (.ref c0))], [.inl (.int (hv y9002.2 (hr y9002.2 c0 33) (0 : Int32).toNatClampNeg)), .inl (.ref c0)], y9002.2, 0, 0)))
        refine k_ext HG (L' := [(0, .inl (.ref c0)), (1, .inl (.int y9002.1))]) rfl rfl ⟨rfl, rfl, trivial⟩ ?_
        exact w_X5_statement_j82 HG hsc hR K9002 hq_c0 hq_c0
noncomputable def J_X5_statement_j38 (h : zH) (c0 : Nat) (c1 : Int32) : Int32 × zH := (c1, h)
theorem w_X5_statement_j38 {scr : List zV} {T0 T : List Nat} {d m : Nat} {r : Option zV} {h' h h0 : zH} {G : Nat → Prop → zS → Prop} {Pf : Int32 × zH → Prop} {c0 : Nat} {c1 : Int32} (HG : G = GL ze_X5_statement scr (zEc ze_X5_statement) (zEs ze_X5_statement) (zD zprog scr d) r h') (hsc : cT scr) (hR : ∀ y hh, some (.inl (.int y)) = r → hh = h' → kOK W_X5_statement T0 T h0 hh → Pf (y, hh)) (K : kOK W_X5_statement T0 T h0 h) (hq_c0 : T[c0]? = some 5) : G m (Pf (J_X5_statement_j38 h c0 c1)) (38, [(0, .inl (.ref c0)), (1, .inl (.int c1))], [], h, 0, 0) := by
  unfold J_X5_statement_j38
  refine k_steps HG 1 (zB_iff.mpr (?_ : G m _ (39, [(0, .inl (.ref c0)), (1, .inl (.int c1))], [.inl (.int c1)], h, 0, 0)))
  exact k_retz HG rfl rfl (fun e1 e2 => hR _ _ e1 e2 K)
noncomputable def F_X5_statement (h : zH) (q0 : Nat) : Int32 × zH := (letf (F_X5_isWord h q0 1000000) (fun y1 => (if y1 = (0 : Int32) then (J_X5_statement_j40 h q0) else (if (hv h q0 17) = (0 : Int32) then (letf (F_X5_tells h q0 (1 : Int32) (60 : Int32)) (fun y2 => (if y2.1 = (0 : Int32) then (J_X5_statement_j38 y2.2 q0 y2.1) else (letf (F_X5_becomeSlips y2.2 q0 (hv y2.2 (hr y2.2 q0 33) (0 : Int32).toNatClampNeg)) (fun h4 => (J_X5_statement_j38 h4 q0 y2.1)))))) else (J_X5_statement_j40 h q0)))))
theorem x_X5_statement {scr : List zV} {T : List Nat} {h : zH} {q0 : Nat} (hsc : cT scr) (K : hOK kty T h) (hq_q0 : T[q0]? = some 5) (hh : cH h) : xIH scr W_X5_statement T T 227 [.inl (.ref q0)] h (F_X5_statement h q0) := by
  refine xIH_intro (E := ze_X5_statement) hsc rfl (cTb_ok rfl) hh (fun d r h' G HG Pf hR m => ?_)
  have K := kOK_refl (W := W_X5_statement) K
  unfold F_X5_statement
  show G m _ (0, [(0, .inl (.ref q0))], [], h, 0, 0)
  refine k_steps HG 2 (zB_iff.mpr (?_ : G m _ (3, [(0, .inl (.ref q0))], [.inl (.ref 1000000), .inl (.ref q0)], h, 0, 0)))
  refine k_cVI HG (E' := ze_X5_isWord) (Or.inl ⟨rfl, rfl⟩) hsc rfl rfl rfl rfl rfl (fun hh => x_X5_isWord hsc K.1 hq_q0 hh) (fun y1 => (?_ : G m _ (6, [(0, .inl (.ref q0))], [.inl (.int y1)], h, 0, 0)))
  refine k_steps HG 1 (kb_eq (x := y1) (y := (0 : Int32)) ?_ ?_)
  · show G m _ (40, [(0, .inl (.ref q0))], [], h, 0, 0)
    exact w_X5_statement_j40 HG hsc hR K hq_q0
  · show G m _ (9, [(0, .inl (.ref q0))], [], h, 0, 0)
    refine k_steps HG 1 (zB_iff.mpr (?_ : G m _ (10, [(0, .inl (.ref q0))], [.inl (.ref q0)], h, 0, 0)))
    refine k_getI HG rfl K hq_q0 rfl (Nat.le_of_ble_eq_true rfl) rfl (?_ : G m _ (13, [(0, .inl (.ref q0))], [.inl (.int (hv h q0 17))], h, 0, 0))
    refine k_steps HG 1 (kb_ne (x := (hv h q0 17)) (y := (0 : Int32)) ?_ ?_)
    · show G m _ (40, [(0, .inl (.ref q0))], [], h, 0, 0)
      exact w_X5_statement_j40 HG hsc hR K hq_q0
    · show G m _ (16, [(0, .inl (.ref q0))], [], h, 0, 0)
      refine k_steps HG 3 (zB_iff.mpr (?_ : G m _ (20, [(0, .inl (.ref q0))], [.inl (.int (60 : Int32)), .inl (.int (1 : Int32)), .inl (.ref q0)], h, 0, 0)))
      refine k_cVIH HG (E' := ze_X5_tells) (Or.inl ⟨rfl, rfl⟩) hsc rfl rfl rfl rfl rfl K rfl (fun hh => x_X5_tells hsc K.1 hq_q0 hh) (fun y2 K2 => (?_ : G m _ (23, [(0, .inl (.ref q0))], [.inl (.int y2.1)], y2.2, 0, 0)))
      refine k_steps HG 3 (kb_eq (x := y2.1) (y := (0 : Int32)) ?_ ?_)
      · show G m _ (38, [(1, .inl (.int y2.1)), (0, .inl (.ref q0))], [], y2.2, 0, 0)
        refine k_ext HG (L' := [(0, .inl (.ref q0)), (1, .inl (.int y2.1))]) rfl rfl ⟨rfl, rfl, trivial⟩ ?_
        exact w_X5_statement_j38 HG hsc hR K2 hq_q0
      · show G m _ (28, [(1, .inl (.int y2.1)), (0, .inl (.ref q0))], [], y2.2, 0, 0)
        refine k_steps HG 2 (zB_iff.mpr (?_ : G m _ (30, [(1, .inl (.int y2.1)), (0, .inl (.ref q0))], [.inl (.ref q0), .inl (.ref q0)], y2.2, 0, 0)))
        refine k_getR HG rfl K2 hq_q0 rfl (Nat.le_of_ble_eq_true rfl) rfl rfl (fun t3 => (?_ : G m _ (33, [(1, .inl (.int y2.1)), (0, .inl (.ref q0))], [.inl (.ref (hr y2.2 q0 33)), .inl (.ref q0)], y2.2, 0, 0)))
        refine k_steps HG 1 (zB_iff.mpr (?_ : G m _ (34, [(1, .inl (.int y2.1)), (0, .inl (.ref q0))], [.inl (.int (0 : Int32)), .inl (.ref (hr y2.2 q0 33)), .inl (.ref q0)], y2.2, 0, 0)))
        refine k_iald HG rfl K2 t3 rfl (fun _ => rfl) (?_ : G m _ (35, [(1, .inl (.int y2.1)), (0, .inl (.ref q0))], [.inl (.int (hv y2.2 (hr y2.2 q0 33) (0 : Int32).toNatClampNeg)), .inl (.ref q0)], y2.2, 0, 0))
        refine k_cVH HG (E' := ze_X5_becomeSlips) (Or.inl ⟨rfl, rfl⟩) hsc rfl rfl rfl rfl rfl K2 rfl (fun hh => x_X5_becomeSlips hsc K2.1 hq_q0 hh) (fun h4 K4 => (?_ : G m _ (38, [(1, .inl (.int y2.1)), (0, .inl (.ref q0))], [], h4, 0, 0)))
        refine k_ext HG (L' := [(0, .inl (.ref q0)), (1, .inl (.int y2.1))]) rfl rfl ⟨rfl, rfl, trivial⟩ ?_
        exact w_X5_statement_j38 HG hsc hR K4 hq_q0
def W_X5_takings : List (Nat × Nat) := [(30, 1000)]
noncomputable def F_X5_takings (h : zH) (q0 : Nat) (a1 : Int32) : Int32 × zH := (letf (F_X5_in (Int32.toInt64 a1) (1 : Int64) (99 : Int64)) (fun y1 => (if y1 = (0 : Int32) then (letf (F_X5_refuse h q0 (-2 : Int32)) (fun y2 => (y2.1, y2.2))) else (letf (F_X5_takingsAt h q0 a1) (fun y3 => (y3, h))))))
theorem x_X5_takings {scr : List zV} {T : List Nat} {h : zH} {q0 : Nat} {a1 : Int32} (hsc : cT scr) (K : hOK kty T h) (hq_q0 : T[q0]? = some 5) (hh : cH h) : xIH scr W_X5_takings T T 233 [.inl (.ref q0), .inl (.int a1)] h (F_X5_takings h q0 a1) := by
  refine xIH_intro (E := ze_X5_takings) hsc rfl (cTb_ok rfl) hh (fun d r h' G HG Pf hR m => ?_)
  have K := kOK_refl (W := W_X5_takings) K
  unfold F_X5_takings
  show G m _ (0, [(0, .inl (.ref q0)), (1, .inl (.int a1))], [], h, 0, 0)
  refine k_steps HG 4 (zB_iff.mpr (?_ : G m _ (6, [(0, .inl (.ref q0)), (1, .inl (.int a1))], [.inl (.long (99 : Int64)), .inl (.long (1 : Int64)), .inl (.long (Int32.toInt64 a1))], h, 0, 0)))
  refine k_cSI HG (E' := ze_X5_in) (Or.inl rfl) hsc rfl rfl rfl rfl (fun hh => x_X5_in hsc hh) (fun y1 => (?_ : G m _ (9, [(0, .inl (.ref q0)), (1, .inl (.int a1))], [.inl (.int y1)], h, 0, 0)))
  refine k_steps HG 1 (kb_eq (x := y1) (y := (0 : Int32)) ?_ ?_)
  · show G m _ (20, [(0, .inl (.ref q0)), (1, .inl (.int a1))], [], h, 0, 0)
    refine k_steps HG 2 (zB_iff.mpr (?_ : G m _ (23, [(0, .inl (.ref q0)), (1, .inl (.int a1))], [.inl (.int (-2 : Int32)), .inl (.ref q0)], h, 0, 0)))
    refine k_cVIH HG (E' := ze_X5_refuse) (Or.inl ⟨rfl, rfl⟩) hsc rfl rfl rfl rfl rfl K rfl (fun hh => x_X5_refuse hsc K.1 hq_q0 hh) (fun y2 K2 => (?_ : G m _ (26, [(0, .inl (.ref q0)), (1, .inl (.int a1))], [.inl (.int y2.1)], y2.2, 0, 0)))
    exact k_reti HG rfl rfl (fun e1 e2 => hR _ _ e1 e2 K2)
  · show G m _ (12, [(0, .inl (.ref q0)), (1, .inl (.int a1))], [], h, 0, 0)
    refine k_steps HG 2 (zB_iff.mpr (?_ : G m _ (14, [(0, .inl (.ref q0)), (1, .inl (.int a1))], [.inl (.int a1), .inl (.ref q0)], h, 0, 0)))
    refine k_cVI HG (E' := ze_X5_takingsAt) (Or.inl ⟨rfl, rfl⟩) hsc rfl rfl rfl rfl rfl (fun hh => x_X5_takingsAt hsc K.1 hq_q0 hh) (fun y3 => (?_ : G m _ (17, [(0, .inl (.ref q0)), (1, .inl (.int a1))], [.inl (.int y3)], h, 0, 0)))
    refine k_steps HG 1 (zB_iff.mpr (?_ : G m _ (26, [(0, .inl (.ref q0)), (1, .inl (.int a1))], [.inl (.int y3)], h, 0, 0)))
    exact k_reti HG rfl rfl (fun e1 e2 => hR _ _ e1 e2 K)
def W_X3_thinkOfAll : List (Nat × Nat) := [(3, 3), (3, 4), (3, 5), (3, 6), (19, 1000), (20, 1000), (21, 1000)]
noncomputable def F_X3_thinkOfAll (h : zH) (q0 : Nat) (q1 : Nat) (a2 : Int32) : zH := (letf (F_X1_countIn h q1) (fun y1 => (letf (F_X3_fill h q0 q1 a2 y1 (hv h q1 2)) (fun h2 => h2))))
theorem x_X3_thinkOfAll {scr : List zV} {T : List Nat} {h : zH} {q0 : Nat} {q1 : Nat} {a2 : Int32} (hsc : cT scr) (K : hOK kty T h) (hq_q0 : T[q0]? = some 3) (hq_q1 : T[q1]? = some 1) (hh : cH h) : xH scr W_X3_thinkOfAll T T 84 [.inl (.ref q0), .inl (.ref q1), .inl (.int a2)] h (F_X3_thinkOfAll h q0 q1 a2) := by
  refine xH_intro (E := ze_X3_thinkOfAll) hsc rfl (cTb_ok rfl) hh (fun d r h' G HG Pf hR m => ?_)
  have K := kOK_refl (W := W_X3_thinkOfAll) K
  unfold F_X3_thinkOfAll
  show G m _ (0, [(0, .inl (.ref q0)), (1, .inl (.ref q1)), (2, .inl (.int a2))], [], h, 0, 0)
  refine k_steps HG 4 (zB_iff.mpr (?_ : G m _ (4, [(0, .inl (.ref q0)), (1, .inl (.ref q1)), (2, .inl (.int a2))], [.inl (.ref q1), .inl (.int a2), .inl (.ref q1), .inl (.ref q0)], h, 0, 0)))
  refine k_cVI HG (E' := ze_X1_countIn) (Or.inl ⟨rfl, rfl⟩) hsc rfl rfl rfl rfl rfl (fun hh => x_X1_countIn hsc K.1 hq_q1 hh) (fun y1 => (?_ : G m _ (7, [(0, .inl (.ref q0)), (1, .inl (.ref q1)), (2, .inl (.int a2))], [.inl (.int y1), .inl (.int a2), .inl (.ref q1), .inl (.ref q0)], h, 0, 0)))
  refine k_steps HG 1 (zB_iff.mpr (?_ : G m _ (8, [(0, .inl (.ref q0)), (1, .inl (.ref q1)), (2, .inl (.int a2))], [.inl (.ref q1), .inl (.int y1), .inl (.int a2), .inl (.ref q1), .inl (.ref q0)], h, 0, 0)))
  refine k_getI HG rfl K hq_q1 rfl (Nat.le_of_ble_eq_true rfl) rfl (?_ : G m _ (11, [(0, .inl (.ref q0)), (1, .inl (.ref q1)), (2, .inl (.int a2))], [.inl (.int (hv h q1 2)), .inl (.int y1), .inl (.int a2), .inl (.ref q1), .inl (.ref q0)], h, 0, 0))
  refine k_cVH HG (E' := ze_X3_fill) (Or.inl ⟨rfl, rfl⟩) hsc rfl rfl rfl rfl rfl K rfl (fun hh => x_X3_fill hsc K.1 hq_q0 hq_q1 hh) (fun h2 K2 => (?_ : G m _ (14, [(0, .inl (.ref q0)), (1, .inl (.ref q1)), (2, .inl (.int a2))], [], h2, 0, 0)))
  exact k_retv HG rfl rfl (fun e1 e2 => hR _ e1 e2 K2)
