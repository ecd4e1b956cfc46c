def W_X4_plays : List (Nat × Nat) := [(1, 4), (1, 5), (1, 6), (1, 7), (3, 3), (3, 4), (3, 5), (3, 6), (14, 1000), (15, 1000), (16, 1000), (19, 1000), (20, 1000), (21, 1000), (23, 1000)]
noncomputable def B_X4_plays_32 (c0 : Nat) (c1 : Int32) (s : (Int32 × zH)) : (Int32 × zH) ⊕ (Int32 × zH) := (if s.1 < (60 : Int32) then (if (hv s.2 (hr s.2 (hr s.2 c0 0) 15) c1.toNatClampNeg) < (hv s.2 (hr s.2 c0 0) 2) then (Sum.inr (s.1, s.2)) else (letf (F_X1_standing s.2 (hr s.2 c0 0)) (fun y1006 => (letf (F_X3_isMarked s.2 (hr s.2 c0 3) s.1 y1006) (fun y1007 => (if y1007 = (0 : Int32) then (Sum.inr (s.1, s.2)) else (letf (F_X1_pay s.2 (hr s.2 c0 0) c1 (hv s.2 (hr s.2 c0 0) 2)) (fun h1010 => (letf (F_X1_slipByDraw h1010 (hr h1010 c0 0)) (fun y1013 => (letf (F_X1_draw y1013.2 (hr h1010 c0 0) y1013.1 c1) (fun h1014 => (Sum.inl ((s.1 + (1 : Int32)), h1014)))))))))))))) else (Sum.inr (s.1, s.2)))
noncomputable def F_X4_plays (h : zH) (q0 : Nat) (a1 : Int32) : Int32 × zH := (letf (F_X1_isBuyer h (hr h q0 0) a1) (fun y2 => (if y2 = (0 : Int32) then (letf (F_X4_refuse h q0 (-2 : Int32)) (fun y21 => (y21.1, y21.2))) else (letf (F_X3_thinkOfAll h (hr h q0 3) (hr h q0 0) a1) (fun h5 => (fx (B_X4_plays_32 q0 a1) (0, []) ((0 : Int32), h5)))))))
theorem x_X4_plays {scr : List zV} {T : List Nat} {h : zH} {q0 : Nat} {a1 : Int32} (hsc : cT scr) (K : hOK kty T h) (hq_q0 : T[q0]? = some 4) (hh : cH h) : xIH scr W_X4_plays T T 125 [.inl (.ref q0), .inl (.int a1)] h (F_X4_plays h q0 a1) := by
  refine xIH_intro (E := ze_X4_plays) hsc rfl (cTb_ok rfl) hh (fun d r h' G HG Pf hR m => ?_)
  have K := kOK_refl (W := W_X4_plays) K
  unfold F_X4_plays
  show G m _ (0, [(0, .inl (.ref q0)), (1, .inl (.int a1))], [], h, 0, 0)
  refine k_steps HG 1 (zB_iff.mpr (?_ : G m _ (1, [(0, .inl (.ref q0)), (1, .inl (.int a1))], [.inl (.ref q0)], h, 0, 0)))
  refine k_getR HG rfl K hq_q0 rfl (Nat.le_of_ble_eq_true rfl) rfl rfl (fun t1 => (?_ : G m _ (4, [(0, .inl (.ref q0)), (1, .inl (.int a1))], [.inl (.ref (hr h q0 0))], h, 0, 0)))
  refine k_steps HG 1 (zB_iff.mpr (?_ : G m _ (5, [(0, .inl (.ref q0)), (1, .inl (.int a1))], [.inl (.int a1), .inl (.ref (hr h q0 0))], h, 0, 0)))
  refine k_cVI HG (E' := ze_X1_isBuyer) (Or.inl ⟨rfl, rfl⟩) hsc rfl rfl rfl rfl rfl (fun hh => x_X1_isBuyer hsc K.1 t1 hh) (fun y2 => (?_ : G m _ (8, [(0, .inl (.ref q0)), (1, .inl (.int a1))], [.inl (.int y2)], h, 0, 0)))
  refine k_steps HG 1 (kb_ne (x := y2) (y := (0 : Int32)) ?_ ?_)
  · show G m _ (18, [(0, .inl (.ref q0)), (1, .inl (.int a1))], [], h, 0, 0)
    refine k_steps HG 1 (zB_iff.mpr (?_ : G m _ (19, [(0, .inl (.ref q0)), (1, .inl (.int a1))], [.inl (.ref q0)], h, 0, 0)))
    refine k_getR HG rfl K hq_q0 rfl (Nat.le_of_ble_eq_true rfl) rfl rfl (fun t3 => (?_ : G m _ (22, [(0, .inl (.ref q0)), (1, .inl (.int a1))], [.inl (.ref (hr h q0 3))], h, 0, 0)))
    refine k_steps HG 1 (zB_iff.mpr (?_ : G m _ (23, [(0, .inl (.ref q0)), (1, .inl (.int a1))], [.inl (.ref q0), .inl (.ref (hr h q0 3))], h, 0, 0)))
    refine k_getR HG rfl K hq_q0 rfl (Nat.le_of_ble_eq_true rfl) rfl rfl (fun t4 => (?_ : G m _ (26, [(0, .inl (.ref q0)), (1, .inl (.int a1))], [.inl (.ref (hr h q0 0)), .inl (.ref (hr h q0 3))], h, 0, 0)))
    refine k_steps HG 1 (zB_iff.mpr (?_ : G m _ (27, [(0, .inl (.ref q0)), (1, .inl (.int a1))], [.inl (.int a1), .inl (.ref (hr h q0 0)), .inl (.ref (hr h q0 3))], h, 0, 0)))
    refine k_cVH HG (E' := ze_X3_thinkOfAll) (Or.inl ⟨rfl, rfl⟩) hsc rfl rfl rfl rfl rfl K rfl (fun hh => x_X3_thinkOfAll hsc K.1 t3 t4 hh) (fun h5 K5 => (?_ : G m _ (30, [(0, .inl (.ref q0)), (1, .inl (.int a1))], [], h5, 0, 0)))
    refine k_steps HG 2 (zB_iff.mpr (?_ : G m _ (32, [(2, .inl (.int (0 : Int32))), (0, .inl (.ref q0)), (1, .inl (.int a1))], [], h5, 0, 0)))
    have lp6 : ∀ m6, m6 ≤ m → ∀ (v6_2 : Int32) (h6 : zH), kOK W_X4_plays T T h h6 → G m6 (Pf (fx (B_X4_plays_32 q0 a1) (0, []) (v6_2, h6))) (32, [(0, .inl (.ref q0)), (1, .inl (.int a1)), (2, .inl (.int v6_2))], [], h6, 0, 0) := by
      intro m6
      induction m6 with
      | zero =>
        intros
        exact k_zero HG
      | succ m6 ih6 =>
        intro le6 v6_2 h6 K6
        have le6 := Nat.le_of_succ_le le6
        have ih6 := ih6 le6
        refine k_fx ?_
        rw [B_X4_plays_32]
        refine k_first HG 2 (kb_ge (x := v6_2) (y := (60 : Int32)) ?_ ?_)
        · show G m6 _ (111, [(0, .inl (.ref q0)), (1, .inl (.int a1)), (2, .inl (.int v6_2))], [], h6, 0, 0)
          refine k_steps HG 1 (zB_iff.mpr (?_ : G m6 _ (112, [(0, .inl (.ref q0)), (1, .inl (.int a1)), (2, .inl (.int v6_2))], [.inl (.int v6_2)], h6, 0, 0)))
          exact k_reti HG rfl rfl (fun e1 e2 => hR _ _ e1 e2 K6)
        · show G m6 _ (38, [(0, .inl (.ref q0)), (1, .inl (.int a1)), (2, .inl (.int v6_2))], [], h6, 0, 0)
          refine k_steps HG 1 (zB_iff.mpr (?_ : G m6 _ (39, [(0, .inl (.ref q0)), (1, .inl (.int a1)), (2, .inl (.int v6_2))], [.inl (.ref q0)], h6, 0, 0)))
          refine k_getR HG rfl K6 hq_q0 rfl (Nat.le_of_ble_eq_true rfl) rfl rfl (fun t7 => (?_ : G m6 _ (42, [(0, .inl (.ref q0)), (1, .inl (.int a1)), (2, .inl (.int v6_2))], [.inl (.ref (hr h6 q0 0))], h6, 0, 0)))
          refine k_getR HG rfl K6 t7 rfl (Nat.le_of_ble_eq_true rfl) rfl rfl (fun t8 => (?_ : G m6 _ (45, [(0, .inl (.ref q0)), (1, .inl (.int a1)), (2, .inl (.int v6_2))], [.inl (.ref (hr h6 (hr h6 q0 0) 15))], h6, 0, 0)))
          refine k_steps HG 1 (zB_iff.mpr (?_ : G m6 _ (46, [(0, .inl (.ref q0)), (1, .inl (.int a1)), (2, .inl (.int v6_2))], [.inl (.int a1), .inl (.ref (hr h6 (hr h6 q0 0) 15))], h6, 0, 0)))
          refine k_iald HG rfl K6 t8 rfl (fun _ => rfl) (?_ : G m6 _ (47, [(0, .inl (.ref q0)), (1, .inl (.int a1)), (2, .inl (.int v6_2))], [.inl (.int (hv h6 (hr h6 (hr h6 q0 0) 15) a1.toNatClampNeg))], h6, 0, 0))
          refine k_steps HG 1 (zB_iff.mpr (?_ : G m6 _ (48, [(0, .inl (.ref q0)), (1, .inl (.int a1)), (2, .inl (.int v6_2))], [.inl (.ref q0), .inl (.int (hv h6 (hr h6 (hr h6 q0 0) 15) a1.toNatClampNeg))], h6, 0, 0)))
          refine k_getR HG rfl K6 hq_q0 rfl (Nat.le_of_ble_eq_true rfl) rfl rfl (fun t9 => (?_ : G m6 _ (51, [(0, .inl (.ref q0)), (1, .inl (.int a1)), (2, .inl (.int v6_2))], [.inl (.ref (hr h6 q0 0)), .inl (.int (hv h6 (hr h6 (hr h6 q0 0) 15) a1.toNatClampNeg))], h6, 0, 0)))
          refine k_getI HG rfl K6 t9 rfl (Nat.le_of_ble_eq_true rfl) rfl (?_ : G m6 _ (54, [(0, .inl (.ref q0)), (1, .inl (.int a1)), (2, .inl (.int v6_2))], [.inl (.int (hv h6 (hr h6 q0 0) 2)), .inl (.int (hv h6 (hr h6 (hr h6 q0 0) 15) a1.toNatClampNeg))], h6, 0, 0))
          refine k_steps HG 1 (kb_lt (x := (hv h6 (hr h6 (hr h6 q0 0) 15) a1.toNatClampNeg)) (y := (hv h6 (hr h6 q0 0) 2)) ?_ ?_)
          · show G m6 _ (111, [(0, .inl (.ref q0)), (1, .inl (.int a1)), (2, .inl (.int v6_2))], [], h6, 0, 0)
            refine k_steps HG 1 (zB_iff.mpr (?_ : G m6 _ (112, [(0, .inl (.ref q0)), (1, .inl (.int a1)), (2, .inl (.int v6_2))], [.inl (.int v6_2)], h6, 0, 0)))
            exact k_reti HG rfl rfl (fun e1 e2 => hR _ _ e1 e2 K6)
          · show G m6 _ (57, [(0, .inl (.ref q0)), (1, .inl (.int a1)), (2, .inl (.int v6_2))], [], h6, 0, 0)
            refine k_steps HG 1 (zB_iff.mpr (?_ : G m6 _ (58, [(0, .inl (.ref q0)), (1, .inl (.int a1)), (2, .inl (.int v6_2))], [.inl (.ref q0)], h6, 0, 0)))
            refine k_getR HG rfl K6 hq_q0 rfl (Nat.le_of_ble_eq_true rfl) rfl rfl (fun t10 => (?_ : G m6 _ (61, [(0, .inl (.ref q0)), (1, .inl (.int a1)), (2, .inl (.int v6_2))], [.inl (.ref (hr h6 q0 3))], h6, 0, 0)))
            refine k_steps HG 2 (zB_iff.mpr (?_ : G m6 _ (63, [(0, .inl (.ref q0)), (1, .inl (.int a1)), (2, .inl (.int v6_2))], [.inl (.ref q0), .inl (.int v6_2), .inl (.ref (hr h6 q0 3))], h6, 0, 0)))
            refine k_getR HG rfl K6 hq_q0 rfl (Nat.le_of_ble_eq_true rfl) rfl rfl (fun t11 => (?_ : G m6 _ (66, [(0, .inl (.ref q0)), (1, .inl (.int a1)), (2, .inl (.int v6_2))], [.inl (.ref (hr h6 q0 0)), .inl (.int v6_2), .inl (.ref (hr h6 q0 3))], h6, 0, 0)))
            refine k_cVI HG (E' := ze_X1_standing) (Or.inl ⟨rfl, rfl⟩) hsc rfl rfl rfl rfl rfl (fun hh => x_X1_standing hsc K6.1 t11 hh) (fun y12 => (?_ : G m6 _ (69, [(0, .inl (.ref q0)), (1, .inl (.int a1)), (2, .inl (.int v6_2))], [.inl (.int y12), .inl (.int v6_2), .inl (.ref (hr h6 q0 3))], h6, 0, 0)))
            refine k_cVI HG (E' := ze_X3_isMarked) (Or.inl ⟨rfl, rfl⟩) hsc rfl rfl rfl rfl rfl (fun hh => x_X3_isMarked hsc K6.1 t10 hh) (fun y13 => (?_ : G m6 _ (72, [(0, .inl (.ref q0)), (1, .inl (.int a1)), (2, .inl (.int v6_2))], [.inl (.int y13)], h6, 0, 0)))
            refine k_steps HG 1 (kb_eq (x := y13) (y := (0 : Int32)) ?_ ?_)
            · show G m6 _ (111, [(0, .inl (.ref q0)), (1, .inl (.int a1)), (2, .inl (.int v6_2))], [], h6, 0, 0)
              refine k_steps HG 1 (zB_iff.mpr (?_ : G m6 _ (112, [(0, .inl (.ref q0)), (1, .inl (.int a1)), (2, .inl (.int v6_2))], [.inl (.int v6_2)], h6, 0, 0)))
              exact k_reti HG rfl rfl (fun e1 e2 => hR _ _ e1 e2 K6)
            · show G m6 _ (75, [(0, .inl (.ref q0)), (1, .inl (.int a1)), (2, .inl (.int v6_2))], [], h6, 0, 0)
              refine k_steps HG 1 (zB_iff.mpr (?_ : G m6 _ (76, [(0, .inl (.ref q0)), (1, .inl (.int a1)), (2, .inl (.int v6_2))], [.inl (.ref q0)], h6, 0, 0)))
              refine k_getR HG rfl K6 hq_q0 rfl (Nat.le_of_ble_eq_true rfl) rfl rfl (fun t14 => (?_ : G m6 _ (79, [(0, .inl (.ref q0)), (1, .inl (.int a1)), (2, .inl (.int v6_2))], [.inl (.ref (hr h6 q0 0))], h6, 0, 0)))
              refine k_steps HG 2 (zB_iff.mpr (?_ : G m6 _ (81, [(0, .inl (.ref q0)), (1, .inl (.int a1)), (2, .inl (.int v6_2))], [.inl (.ref q0), .inl (.int a1), .inl (.ref (hr h6 q0 0))], h6, 0, 0)))
              refine k_getR HG rfl K6 hq_q0 rfl (Nat.le_of_ble_eq_true rfl) rfl rfl (fun t15 => (?_ : G m6 _ (84, [(0, .inl (.ref q0)), (1, .inl (.int a1)), (2, .inl (.int v6_2))], [.inl (.ref (hr h6 q0 0)), .inl (.int a1), .inl (.ref (hr h6 q0 0))], h6, 0, 0)))
              refine k_getI HG rfl K6 t15 rfl (Nat.le_of_ble_eq_true rfl) rfl (?_ : G m6 _ (87, [(0, .inl (.ref q0)), (1, .inl (.int a1)), (2, .inl (.int v6_2))], [.inl (.int (hv h6 (hr h6 q0 0) 2)), .inl (.int a1), .inl (.ref (hr h6 q0 0))], h6, 0, 0))
              refine k_cVH HG (E' := ze_X1_pay) (Or.inl ⟨rfl, rfl⟩) hsc rfl rfl rfl rfl rfl K6 rfl (fun hh => x_X1_pay hsc K6.1 t15 hh) (fun h16 K16 => (?_ : G m6 _ (90, [(0, .inl (.ref q0)), (1, .inl (.int a1)), (2, .inl (.int v6_2))], [], h16, 0, 0)))
              refine k_steps HG 1 (zB_iff.mpr (?_ : G m6 _ (91, [(0, .inl (.ref q0)), (1, .inl (.int a1)), (2, .inl (.int v6_2))], [.inl (.ref q0)], h16, 0, 0)))
              refine k_getR HG rfl K16 hq_q0 rfl (Nat.le_of_ble_eq_true rfl) rfl rfl (fun t17 => (?_ : G m6 _ (94, [(0, .inl (.ref q0)), (1, .inl (.int a1)), (2, .inl (.int v6_2))], [.inl (.ref (hr h16 q0 0))], h16, 0, 0)))
              refine k_steps HG 1 (zB_iff.mpr (?_ : G m6 _ (95, [(0, .inl (.ref q0)), (1, .inl (.int a1)), (2, .inl (.int v6_2))], [.inl (.ref q0), .inl (.ref (hr h16 q0 0))], h16, 0, 0)))
              refine k_getR HG rfl K16 hq_q0 rfl (Nat.le_of_ble_eq_true rfl) rfl rfl (fun t18 => (?_ : G m6 _ (98, [(0, .inl (.ref q0)), (1, .inl (.int a1)), (2, .inl (.int v6_2))], [.inl (.ref (hr h16 q0 0)), .inl (.ref (hr h16 q0 0))], h16, 0, 0)))
              refine k_cVIH HG (E' := ze_X1_slipByDraw) (Or.inl ⟨rfl, rfl⟩) hsc rfl rfl rfl rfl rfl K16 rfl (fun hh => x_X1_slipByDraw hsc K16.1 t18 hh) (fun y19 K19 => (?_ : G m6 _ (101, [(0, .inl (.ref q0)), (1, .inl (.int a1)), (2, .inl (.int v6_2))], [.inl (.int y19.1), .inl (.ref (hr h16 q0 0))], y19.2, 0, 0)))
              refine k_steps HG 1 (zB_iff.mpr (?_ : G m6 _ (102, [(0, .inl (.ref q0)), (1, .inl (.int a1)), (2, .inl (.int v6_2))], [.inl (.int a1), .inl (.int y19.1), .inl (.ref (hr h16 q0 0))], y19.2, 0, 0)))
              refine k_cVH HG (E' := ze_X1_draw) (Or.inl ⟨rfl, rfl⟩) hsc rfl rfl rfl rfl rfl K19 rfl (fun hh => x_X1_draw hsc K19.1 t18 hh) (fun h20 K20 => (?_ : G m6 _ (105, [(0, .inl (.ref q0)), (1, .inl (.int a1)), (2, .inl (.int v6_2))], [], h20, 0, 0)))
              refine k_steps HG 2 (zB_iff.mpr (?_ : G m6 _ (32, [(2, .inl (.int (v6_2 + (1 : Int32)))), (0, .inl (.ref q0)), (1, .inl (.int a1))], [], h20, 0, 0)))
              refine k_ext HG (L' := [(0, .inl (.ref q0)), (1, .inl (.int a1)), (2, .inl (.int (v6_2 + (1 : Int32))))]) rfl rfl ⟨rfl, rfl, rfl, trivial⟩ ?_
              exact ih6 _ _ K20
    refine k_ext HG (L' := [(0, .inl (.ref q0)), (1, .inl (.int a1)), (2, .inl (.int (0 : Int32)))]) rfl rfl ⟨rfl, rfl, rfl, trivial⟩ ?_
    exact lp6 m (Nat.le_refl _) _ _ K5
  · show G m _ (11, [(0, .inl (.ref q0)), (1, .inl (.int a1))], [], h, 0, 0)
    refine k_steps HG 2 (zB_iff.mpr (?_ : G m _ (14, [(0, .inl (.ref q0)), (1, .inl (.int a1))], [.inl (.int (-2 : Int32)), .inl (.ref q0)], h, 0, 0)))
    refine k_cVIH HG (E' := ze_X4_refuse) (Or.inl ⟨rfl, rfl⟩) hsc rfl rfl rfl rfl rfl K rfl (fun hh => x_X4_refuse hsc K.1 hq_q0 hh) (fun y21 K21 => (?_ : G m _ (17, [(0, .inl (.ref q0)), (1, .inl (.int a1))], [.inl (.int y21.1)], y21.2, 0, 0)))
    exact k_reti HG rfl rfl (fun e1 e2 => hR _ _ e1 e2 K21)
def W_X4_till : List (Nat × Nat) := [(3, 3), (3, 4), (3, 5), (3, 6), (19, 1000), (20, 1000), (21, 1000), (23, 1000)]
noncomputable def B_X4_till_54 (h : zH) (c0 : Nat) (c1 : Int32) (c2 : Int32) (c3 : Int32) (s : (Int32)) : (Int32) ⊕ (Int32 × zH) := (if c3 < s then (Sum.inr ((60 : Int32), h)) else (letf (F_X3_isMarked h (hr h c0 3) s c2) (fun y1002 => (if y1002 = (0 : Int32) then (Sum.inr (s, h)) else (Sum.inl (s + (1 : Int32)))))))
noncomputable def F_X4_till (h : zH) (q0 : Nat) (a1 : Int32) : Int32 × zH := (letf (F_X1_isBuyer h (hr h q0 0) a1) (fun y2 => (if y2 = (0 : Int32) then (letf (F_X4_refuse h q0 (-2 : Int32)) (fun y14 => (y14.1, y14.2))) else (letf (F_X3_thinkOfAll h (hr h q0 3) (hr h q0 0) a1) (fun h5 => (letf (F_X1_standing h5 (hr h5 q0 0)) (fun y7 => (letf (F_X1_countIn h5 (hr h5 q0 0)) (fun y9 => (letf (F_J6_bitCount_0f7a4 y7) (fun y10 => (fx (B_X4_till_54 h5 q0 a1 y7 (y9 - y10)) (0, []) (0 : Int32)))))))))))))
theorem x_X4_till {scr : List zV} {T : List Nat} {h : zH} {q0 : Nat} {a1 : Int32} (hsc : cT scr) (K : hOK kty T h) (hq_q0 : T[q0]? = some 4) (hh : cH h) : xIH scr W_X4_till T T 146 [.inl (.ref q0), .inl (.int a1)] h (F_X4_till h q0 a1) := by
  refine xIH_intro (E := ze_X4_till) hsc rfl (cTb_ok rfl) hh (fun d r h' G HG Pf hR m => ?_)
  have K := kOK_refl (W := W_X4_till) K
  unfold F_X4_till
  show G m _ (0, [(0, .inl (.ref q0)), (1, .inl (.int a1))], [], h, 0, 0)
  refine k_steps HG 1 (zB_iff.mpr (?_ : G m _ (1, [(0, .inl (.ref q0)), (1, .inl (.int a1))], [.inl (.ref q0)], h, 0, 0)))
  refine k_getR HG rfl K hq_q0 rfl (Nat.le_of_ble_eq_true rfl) rfl rfl (fun t1 => (?_ : G m _ (4, [(0, .inl (.ref q0)), (1, .inl (.int a1))], [.inl (.ref (hr h q0 0))], h, 0, 0)))
  refine k_steps HG 1 (zB_iff.mpr (?_ : G m _ (5, [(0, .inl (.ref q0)), (1, .inl (.int a1))], [.inl (.int a1), .inl (.ref (hr h q0 0))], h, 0, 0)))
  refine k_cVI HG (E' := ze_X1_isBuyer) (Or.inl ⟨rfl, rfl⟩) hsc rfl rfl rfl rfl rfl (fun hh => x_X1_isBuyer hsc K.1 t1 hh) (fun y2 => (?_ : G m _ (8, [(0, .inl (.ref q0)), (1, .inl (.int a1))], [.inl (.int y2)], h, 0, 0)))
  refine k_steps HG 1 (kb_ne (x := y2) (y := (0 : Int32)) ?_ ?_)
  · show G m _ (18, [(0, .inl (.ref q0)), (1, .inl (.int a1))], [], h, 0, 0)
    refine k_steps HG 1 (zB_iff.mpr (?_ : G m _ (19, [(0, .inl (.ref q0)), (1, .inl (.int a1))], [.inl (.ref q0)], h, 0, 0)))
    refine k_getR HG rfl K hq_q0 rfl (Nat.le_of_ble_eq_true rfl) rfl rfl (fun t3 => (?_ : G m _ (22, [(0, .inl (.ref q0)), (1, .inl (.int a1))], [.inl (.ref (hr h q0 3))], h, 0, 0)))
    refine k_steps HG 1 (zB_iff.mpr (?_ : G m _ (23, [(0, .inl (.ref q0)), (1, .inl (.int a1))], [.inl (.ref q0), .inl (.ref (hr h q0 3))], h, 0, 0)))
    refine k_getR HG rfl K hq_q0 rfl (Nat.le_of_ble_eq_true rfl) rfl rfl (fun t4 => (?_ : G m _ (26, [(0, .inl (.ref q0)), (1, .inl (.int a1))], [.inl (.ref (hr h q0 0)), .inl (.ref (hr h q0 3))], h, 0, 0)))
    refine k_steps HG 1 (zB_iff.mpr (?_ : G m _ (27, [(0, .inl (.ref q0)), (1, .inl (.int a1))], [.inl (.int a1), .inl (.ref (hr h q0 0)), .inl (.ref (hr h q0 3))], h, 0, 0)))
    refine k_cVH HG (E' := ze_X3_thinkOfAll) (Or.inl ⟨rfl, rfl⟩) hsc rfl rfl rfl rfl rfl K rfl (fun hh => x_X3_thinkOfAll hsc K.1 t3 t4 hh) (fun h5 K5 => (?_ : G m _ (30, [(0, .inl (.ref q0)), (1, .inl (.int a1))], [], h5, 0, 0)))
    refine k_steps HG 1 (zB_iff.mpr (?_ : G m _ (31, [(0, .inl (.ref q0)), (1, .inl (.int a1))], [.inl (.ref q0)], h5, 0, 0)))
    refine k_getR HG rfl K5 hq_q0 rfl (Nat.le_of_ble_eq_true rfl) rfl rfl (fun t6 => (?_ : G m _ (34, [(0, .inl (.ref q0)), (1, .inl (.int a1))], [.inl (.ref (hr h5 q0 0))], h5, 0, 0)))
    refine k_cVI HG (E' := ze_X1_standing) (Or.inl ⟨rfl, rfl⟩) hsc rfl rfl rfl rfl rfl (fun hh => x_X1_standing hsc K5.1 t6 hh) (fun y7 => (?_ : G m _ (37, [(0, .inl (.ref q0)), (1, .inl (.int a1))], [.inl (.int y7)], h5, 0, 0)))
    refine k_steps HG 2 (zB_iff.mpr (?_ : G m _ (39, [(2, .inl (.int y7)), (0, .inl (.ref q0)), (1, .inl (.int a1))], [.inl (.ref q0)], h5, 0, 0)))
    refine k_getR HG rfl K5 hq_q0 rfl (Nat.le_of_ble_eq_true rfl) rfl rfl (fun t8 => (?_ : G m _ (42, [(2, .inl (.int y7)), (0, .inl (.ref q0)), (1, .inl (.int a1))], [.inl (.ref (hr h5 q0 0))], h5, 0, 0)))
    refine k_cVI HG (E' := ze_X1_countIn) (Or.inl ⟨rfl, rfl⟩) hsc rfl rfl rfl rfl rfl (fun hh => x_X1_countIn hsc K5.1 t8 hh) (fun y9 => (?_ : G m _ (45, [(2, .inl (.int y7)), (0, .inl (.ref q0)), (1, .inl (.int a1))], [.inl (.int y9)], h5, 0, 0)))
    refine k_steps HG 1 (zB_iff.mpr (?_ : G m _ (46, [(2, .inl (.int y7)), (0, .inl (.ref q0)), (1, .inl (.int a1))], [.inl (.int y7), .inl (.int y9)], h5, 0, 0)))
    refine k_cSI HG (E' := ze_J6_bitCount_0f7a4) (Or.inl rfl) hsc rfl rfl rfl rfl (fun hh => x_J6_bitCount_0f7a4 hsc hh) (fun y10 => (?_ : G m _ (49, [(2, .inl (.int y7)), (0, .inl (.ref q0)), (1, .inl (.int a1))], [.inl (.int y10), .inl (.int y9)], h5, 0, 0)))
    refine k_steps HG 4 (zB_iff.mpr (?_ : G m _ (54, [(4, .inl (.int (0 : Int32))), (3, .inl (.int (y9 - y10))), (2, .inl (.int y7)), (0, .inl (.ref q0)), (1, .inl (.int a1))], [], h5, 0, 0)))
    have lp11 : ∀ m11, m11 ≤ m → ∀ (v11_4 : Int32), G m11 (Pf (fx (B_X4_till_54 h5 q0 a1 y7 (y9 - y10)) (0, []) v11_4)) (54, [(0, .inl (.ref q0)), (1, .inl (.int a1)), (2, .inl (.int y7)), (3, .inl (.int (y9 - y10))), (4, .inl (.int v11_4))], [], h5, 0, 0) := by
      intro m11
      induction m11 with
      | zero =>
        intros
        exact k_zero HG
      | succ m11 ih11 =>
        intro le11 v11_4
        have le11 := Nat.le_of_succ_le le11
        have ih11 := ih11 le11
        refine k_fx ?_
        rw [B_X4_till_54]
        refine k_first HG 2 (kb_gt (x := v11_4) (y := (y9 - y10)) ?_ ?_)
        · show G m11 _ (82, [(0, .inl (.ref q0)), (1, .inl (.int a1)), (2, .inl (.int y7)), (3, .inl (.int (y9 - y10))), (4, .inl (.int v11_4))], [], h5, 0, 0)
          refine k_steps HG 1 (zB_iff.mpr (?_ : G m11 _ (84, [(0, .inl (.ref q0)), (1, .inl (.int a1)), (2, .inl (.int y7)), (3, .inl (.int (y9 - y10))), (4, .inl (.int v11_4))], [.inl (.int (60 : Int32))], h5, 0, 0)))
          exact k_reti HG rfl rfl (fun e1 e2 => hR _ _ e1 e2 K5)
        · show G m11 _ (60, [(0, .inl (.ref q0)), (1, .inl (.int a1)), (2, .inl (.int y7)), (3, .inl (.int (y9 - y10))), (4, .inl (.int v11_4))], [], h5, 0, 0)
          refine k_steps HG 1 (zB_iff.mpr (?_ : G m11 _ (61, [(0, .inl (.ref q0)), (1, .inl (.int a1)), (2, .inl (.int y7)), (3, .inl (.int (y9 - y10))), (4, .inl (.int v11_4))], [.inl (.ref q0)], h5, 0, 0)))
          refine k_getR HG rfl K5 hq_q0 rfl (Nat.le_of_ble_eq_true rfl) rfl rfl (fun t12 => (?_ : G m11 _ (64, [(0, .inl (.ref q0)), (1, .inl (.int a1)), (2, .inl (.int y7)), (3, .inl (.int (y9 - y10))), (4, .inl (.int v11_4))], [.inl (.ref (hr h5 q0 3))], h5, 0, 0)))
          refine k_steps HG 2 (zB_iff.mpr (?_ : G m11 _ (67, [(0, .inl (.ref q0)), (1, .inl (.int a1)), (2, .inl (.int y7)), (3, .inl (.int (y9 - y10))), (4, .inl (.int v11_4))], [.inl (.int y7), .inl (.int v11_4), .inl (.ref (hr h5 q0 3))], h5, 0, 0)))
          refine k_cVI HG (E' := ze_X3_isMarked) (Or.inl ⟨rfl, rfl⟩) hsc rfl rfl rfl rfl rfl (fun hh => x_X3_isMarked hsc K5.1 t12 hh) (fun y13 => (?_ : G m11 _ (70, [(0, .inl (.ref q0)), (1, .inl (.int a1)), (2, .inl (.int y7)), (3, .inl (.int (y9 - y10))), (4, .inl (.int v11_4))], [.inl (.int y13)], h5, 0, 0)))
          refine k_steps HG 1 (kb_ne (x := y13) (y := (0 : Int32)) ?_ ?_)
          · show G m11 _ (76, [(0, .inl (.ref q0)), (1, .inl (.int a1)), (2, .inl (.int y7)), (3, .inl (.int (y9 - y10))), (4, .inl (.int v11_4))], [], h5, 0, 0)
            refine k_steps HG 2 (zB_iff.mpr (?_ : G m11 _ (54, [(4, .inl (.int (v11_4 + (1 : Int32)))), (0, .inl (.ref q0)), (1, .inl (.int a1)), (2, .inl (.int y7)), (3, .inl (.int (y9 - y10)))], [], h5, 0, 0)))
            refine k_ext HG (L' := [(0, .inl (.ref q0)), (1, .inl (.int a1)), (2, .inl (.int y7)), (3, .inl (.int (y9 - y10))), (4, .inl (.int (v11_4 + (1 : Int32))))]) rfl rfl ⟨rfl, rfl, rfl, rfl, rfl, trivial⟩ ?_
            exact ih11 _
          · show G m11 _ (73, [(0, .inl (.ref q0)), (1, .inl (.int a1)), (2, .inl (.int y7)), (3, .inl (.int (y9 - y10))), (4, .inl (.int v11_4))], [], h5, 0, 0)
            refine k_steps HG 1 (zB_iff.mpr (?_ : G m11 _ (75, [(0, .inl (.ref q0)), (1, .inl (.int a1)), (2, .inl (.int y7)), (3, .inl (.int (y9 - y10))), (4, .inl (.int v11_4))], [.inl (.int v11_4)], h5, 0, 0)))
            exact k_reti HG rfl rfl (fun e1 e2 => hR _ _ e1 e2 K5)
    refine k_ext HG (L' := [(0, .inl (.ref q0)), (1, .inl (.int a1)), (2, .inl (.int y7)), (3, .inl (.int (y9 - y10))), (4, .inl (.int (0 : Int32)))]) rfl rfl ⟨rfl, rfl, rfl, rfl, rfl, trivial⟩ ?_
    exact lp11 m (Nat.le_refl _) _
  · show G m _ (11, [(0, .inl (.ref q0)), (1, .inl (.int a1))], [], h, 0, 0)
    refine k_steps HG 2 (zB_iff.mpr (?_ : G m _ (14, [(0, .inl (.ref q0)), (1, .inl (.int a1))], [.inl (.int (-2 : Int32)), .inl (.ref q0)], h, 0, 0)))
    refine k_cVIH HG (E' := ze_X4_refuse) (Or.inl ⟨rfl, rfl⟩) hsc rfl rfl rfl rfl rfl K rfl (fun hh => x_X4_refuse hsc K.1 hq_q0 hh) (fun y14 K14 => (?_ : G m _ (17, [(0, .inl (.ref q0)), (1, .inl (.int a1))], [.inl (.int y14.1)], y14.2, 0, 0)))
    exact k_reti HG rfl rfl (fun e1 e2 => hR _ _ e1 e2 K14)
def W_X4_atOnce : List (Nat × Nat) := [(3, 3), (3, 4), (3, 5), (3, 6), (19, 1000), (20, 1000), (21, 1000), (23, 1000)]
noncomputable def F_X4_atOnce (h : zH) (q0 : Nat) (a1 : Int32) : Int32 × zH := (letf (F_X1_isBuyer h (hr h q0 0) a1) (fun y2 => (if y2 = (0 : Int32) then (letf (F_X4_refuse h q0 (-2 : Int32)) (fun y5 => (((-10000000 : Int32) + y5.1), y5.2))) else (letf (F_X4_meanOfGoes h q0 a1 (5 : Int32)) (fun y3 => ((y3.1 - ((1000 : Int32) * (hv y3.2 (hr y3.2 q0 0) 3))), y3.2))))))
theorem x_X4_atOnce {scr : List zV} {T : List Nat} {h : zH} {q0 : Nat} {a1 : Int32} (hsc : cT scr) (K : hOK kty T h) (hq_q0 : T[q0]? = some 4) (hh : cH h) : xIH scr W_X4_atOnce T T 92 [.inl (.ref q0), .inl (.int a1)] h (F_X4_atOnce h q0 a1) := by
  refine xIH_intro (E := ze_X4_atOnce) hsc rfl (cTb_ok rfl) hh (fun d r h' G HG Pf hR m => ?_)
  have K := kOK_refl (W := W_X4_atOnce) K
  unfold F_X4_atOnce
  show G m _ (0, [(0, .inl (.ref q0)), (1, .inl (.int a1))], [], h, 0, 0)
  refine k_steps HG 1 (zB_iff.mpr (?_ : G m _ (1, [(0, .inl (.ref q0)), (1, .inl (.int a1))], [.inl (.ref q0)], h, 0, 0)))
  refine k_getR HG rfl K hq_q0 rfl (Nat.le_of_ble_eq_true rfl) rfl rfl (fun t1 => (?_ : G m _ (4, [(0, .inl (.ref q0)), (1, .inl (.int a1))], [.inl (.ref (hr h q0 0))], h, 0, 0)))
  refine k_steps HG 1 (zB_iff.mpr (?_ : G m _ (5, [(0, .inl (.ref q0)), (1, .inl (.int a1))], [.inl (.int a1), .inl (.ref (hr h q0 0))], h, 0, 0)))
  refine k_cVI HG (E' := ze_X1_isBuyer) (Or.inl ⟨rfl, rfl⟩) hsc rfl rfl rfl rfl rfl (fun hh => x_X1_isBuyer hsc K.1 t1 hh) (fun y2 => (?_ : G m _ (8, [(0, .inl (.ref q0)), (1, .inl (.int a1))], [.inl (.int y2)], h, 0, 0)))
  refine k_steps HG 1 (kb_ne (x := y2) (y := (0 : Int32)) ?_ ?_)
  · show G m _ (21, [(0, .inl (.ref q0)), (1, .inl (.int a1))], [], h, 0, 0)
    refine k_steps HG 3 (zB_iff.mpr (?_ : G m _ (24, [(0, .inl (.ref q0)), (1, .inl (.int a1))], [.inl (.int (5 : Int32)), .inl (.int a1), .inl (.ref q0)], h, 0, 0)))
    refine k_cVIH HG (E' := ze_X4_meanOfGoes) (Or.inl ⟨rfl, rfl⟩) hsc rfl rfl rfl rfl rfl K rfl (fun hh => x_X4_meanOfGoes hsc K.1 hq_q0 hh) (fun y3 K3 => (?_ : G m _ (27, [(0, .inl (.ref q0)), (1, .inl (.int a1))], [.inl (.int y3.1)], y3.2, 0, 0)))
    refine k_steps HG 2 (zB_iff.mpr (?_ : G m _ (31, [(0, .inl (.ref q0)), (1, .inl (.int a1))], [.inl (.ref q0), .inl (.int (1000 : Int32)), .inl (.int y3.1)], y3.2, 0, 0)))
    refine k_getR HG rfl K3 hq_q0 rfl (Nat.le_of_ble_eq_true rfl) rfl rfl (fun t4 => (?_ : G m _ (34, [(0, .inl (.ref q0)), (1, .inl (.int a1))], [.inl (.ref (hr y3.2 q0 0)), .inl (.int (1000 : Int32)), .inl (.int y3.1)], y3.2, 0, 0)))
    refine k_getI HG rfl K3 t4 rfl (Nat.le_of_ble_eq_true rfl) rfl (?_ : G m _ (37, [(0, .inl (.ref q0)), (1, .inl (.int a1))], [.inl (.int (hv y3.2 (hr y3.2 q0 0) 3)), .inl (.int (1000 : Int32)), .inl (.int y3.1)], y3.2, 0, 0))
    refine k_steps HG 2 (zB_iff.mpr (?_ : G m _ (39, [(0, .inl (.ref q0)), (1, .inl (.int a1))], [.inl (.int (y3.1 - ((1000 : Int32) * (hv y3.2 (hr y3.2 q0 0) 3))))], y3.2, 0, 0)))
    exact k_reti HG rfl rfl (fun e1 e2 => hR _ _ e1 e2 K3)
  · show G m _ (11, [(0, .inl (.ref q0)), (1, .inl (.int a1))], [], h, 0, 0)
    refine k_steps HG 3 (zB_iff.mpr (?_ : G m _ (16, [(0, .inl (.ref q0)), (1, .inl (.int a1))], [.inl (.int (-2 : Int32)), .inl (.ref q0), .inl (.int (-10000000 : Int32))], h, 0, 0)))
    refine k_cVIH HG (E' := ze_X4_refuse) (Or.inl ⟨rfl, rfl⟩) hsc rfl rfl rfl rfl rfl K rfl (fun hh => x_X4_refuse hsc K.1 hq_q0 hh) (fun y5 K5 => (?_ : G m _ (19, [(0, .inl (.ref q0)), (1, .inl (.int a1))], [.inl (.int y5.1), .inl (.int (-10000000 : Int32))], y5.2, 0, 0)))
    refine k_steps HG 1 (zB_iff.mpr (?_ : G m _ (20, [(0, .inl (.ref q0)), (1, .inl (.int a1))], [.inl (.int ((-10000000 : Int32) + y5.1))], y5.2, 0, 0)))
    exact k_reti HG rfl rfl (fun e1 e2 => hR _ _ e1 e2 K5)
def W_X4_mean : List (Nat × Nat) := [(3, 3), (3, 4), (3, 5), (3, 6), (19, 1000), (20, 1000), (21, 1000), (23, 1000)]
noncomputable def F_X4_mean (h : zH) (q0 : Nat) (a1 : Int32) (a2 : Int32) : Int32 × zH := (letf (F_X1_isBuyer h (hr h q0 0) a1) (fun y2 => (if y2 = (0 : Int32) then (letf (F_X4_refuse h q0 (-2 : Int32)) (fun y3 => (y3.1, y3.2))) else (letf (F_X4_isWithin a2 (0 : Int32) (8 : Int32)) (fun y4 => (if y4 = (0 : Int32) then (letf (F_X4_refuse h q0 (-2 : Int32)) (fun y6 => (y6.1, y6.2))) else (letf (F_X4_meanOfGoes h q0 a1 a2) (fun y5 => (y5.1, y5.2)))))))))
theorem x_X4_mean {scr : List zV} {T : List Nat} {h : zH} {q0 : Nat} {a1 : Int32} {a2 : Int32} (hsc : cT scr) (K : hOK kty T h) (hq_q0 : T[q0]? = some 4) (hh : cH h) : xIH scr W_X4_mean T T 121 [.inl (.ref q0), .inl (.int a1), .inl (.int a2)] h (F_X4_mean h q0 a1 a2) := by
  refine xIH_intro (E := ze_X4_mean) hsc rfl (cTb_ok rfl) hh (fun d r h' G HG Pf hR m => ?_)
  have K := kOK_refl (W := W_X4_mean) K
  unfold F_X4_mean
  show G m _ (0, [(0, .inl (.ref q0)), (1, .inl (.int a1)), (2, .inl (.int a2))], [], h, 0, 0)
  refine k_steps HG 1 (zB_iff.mpr (?_ : G m _ (1, [(0, .inl (.ref q0)), (1, .inl (.int a1)), (2, .inl (.int a2))], [.inl (.ref q0)], h, 0, 0)))
  refine k_getR HG rfl K hq_q0 rfl (Nat.le_of_ble_eq_true rfl) rfl rfl (fun t1 => (?_ : G m _ (4, [(0, .inl (.ref q0)), (1, .inl (.int a1)), (2, .inl (.int a2))], [.inl (.ref (hr h q0 0))], h, 0, 0)))
  refine k_steps HG 1 (zB_iff.mpr (?_ : G m _ (5, [(0, .inl (.ref q0)), (1, .inl (.int a1)), (2, .inl (.int a2))], [.inl (.int a1), .inl (.ref (hr h q0 0))], h, 0, 0)))
  refine k_cVI HG (E' := ze_X1_isBuyer) (Or.inl ⟨rfl, rfl⟩) hsc rfl rfl rfl rfl rfl (fun hh => x_X1_isBuyer hsc K.1 t1 hh) (fun y2 => (?_ : G m _ (8, [(0, .inl (.ref q0)), (1, .inl (.int a1)), (2, .inl (.int a2))], [.inl (.int y2)], h, 0, 0)))
  refine k_steps HG 1 (kb_eq (x := y2) (y := (0 : Int32)) ?_ ?_)
  · show G m _ (21, [(0, .inl (.ref q0)), (1, .inl (.int a1)), (2, .inl (.int a2))], [], h, 0, 0)
    refine k_steps HG 2 (zB_iff.mpr (?_ : G m _ (24, [(0, .inl (.ref q0)), (1, .inl (.int a1)), (2, .inl (.int a2))], [.inl (.int (-2 : Int32)), .inl (.ref q0)], h, 0, 0)))
    refine k_cVIH HG (E' := ze_X4_refuse) (Or.inl ⟨rfl, rfl⟩) hsc rfl rfl rfl rfl rfl K rfl (fun hh => x_X4_refuse hsc K.1 hq_q0 hh) (fun y3 K3 => (?_ : G m _ (27, [(0, .inl (.ref q0)), (1, .inl (.int a1)), (2, .inl (.int a2))], [.inl (.int y3.1)], y3.2, 0, 0)))
    exact k_reti HG rfl rfl (fun e1 e2 => hR _ _ e1 e2 K3)
  · show G m _ (11, [(0, .inl (.ref q0)), (1, .inl (.int a1)), (2, .inl (.int a2))], [], h, 0, 0)
    refine k_steps HG 3 (zB_iff.mpr (?_ : G m _ (15, [(0, .inl (.ref q0)), (1, .inl (.int a1)), (2, .inl (.int a2))], [.inl (.int (8 : Int32)), .inl (.int (0 : Int32)), .inl (.int a2)], h, 0, 0)))
    refine k_cSI HG (E' := ze_X4_isWithin) (Or.inl rfl) hsc rfl rfl rfl rfl (fun hh => x_X4_isWithin hsc hh) (fun y4 => (?_ : G m _ (18, [(0, .inl (.ref q0)), (1, .inl (.int a1)), (2, .inl (.int a2))], [.inl (.int y4)], h, 0, 0)))
    refine k_steps HG 1 (kb_ne (x := y4) (y := (0 : Int32)) ?_ ?_)
    · show G m _ (28, [(0, .inl (.ref q0)), (1, .inl (.int a1)), (2, .inl (.int a2))], [], h, 0, 0)
      refine k_steps HG 3 (zB_iff.mpr (?_ : G m _ (31, [(0, .inl (.ref q0)), (1, .inl (.int a1)), (2, .inl (.int a2))], [.inl (.int a2), .inl (.int a1), .inl (.ref q0)], h, 0, 0)))
      refine k_cVIH HG (E' := ze_X4_meanOfGoes) (Or.inl ⟨rfl, rfl⟩) hsc rfl rfl rfl rfl rfl K rfl (fun hh => x_X4_meanOfGoes hsc K.1 hq_q0 hh) (fun y5 K5 => (?_ : G m _ (34, [(0, .inl (.ref q0)), (1, .inl (.int a1)), (2, .inl (.int a2))], [.inl (.int y5.1)], y5.2, 0, 0)))
      exact k_reti HG rfl rfl (fun e1 e2 => hR _ _ e1 e2 K5)
    · show G m _ (21, [(0, .inl (.ref q0)), (1, .inl (.int a1)), (2, .inl (.int a2))], [], h, 0, 0)
      refine k_steps HG 2 (zB_iff.mpr (?_ : G m _ (24, [(0, .inl (.ref q0)), (1, .inl (.int a1)), (2, .inl (.int a2))], [.inl (.int (-2 : Int32)), .inl (.ref q0)], h, 0, 0)))
      refine k_cVIH HG (E' := ze_X4_refuse) (Or.inl ⟨rfl, rfl⟩) hsc rfl rfl rfl rfl rfl K rfl (fun hh => x_X4_refuse hsc K.1 hq_q0 hh) (fun y6 K6 => (?_ : G m _ (27, [(0, .inl (.ref q0)), (1, .inl (.int a1)), (2, .inl (.int a2))], [.inl (.int y6.1)], y6.2, 0, 0)))
      exact k_reti HG rfl rfl (fun e1 e2 => hR _ _ e1 e2 K6)
