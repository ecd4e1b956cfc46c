def W_X5_five : List (Nat × Nat) := [(5, 13), (5, 14), (5, 15), (30, 1000), (31, 1000), (35, 1000), (36, 1000), (37, 1000)]
noncomputable def B_X5_five_72 (c0 : Nat) (c1 : Int32) (s : (Int32 × Int32 × zH)) : (Int32 × Int32 × zH) ⊕ (Int32 × zH) := (if s.2.1 < (5 : Int32) then (letf (F_X5_drawableMany s.2.2 c0) (fun y1001 => (if (0 : Int32) < y1001 then (letf (F_X5_drawn s.2.2 c0) (fun y1002 => (letf (F_X5_comesOut y1002.2 c0 y1002.1 c1) (fun y1003 => (Sum.inl ((s.1 ||| y1003.1), (s.2.1 + (1 : Int32)), y1003.2)))))) else (Sum.inr (s.1, s.2.2))))) else (Sum.inr (s.1, s.2.2)))
noncomputable def F_X5_five (h : zH) (q0 : Nat) (a1 : Int32) : Int32 × zH := (letf (F_X5_isBuyer h q0 a1) (fun y1 => (if y1 = (0 : Int32) then (letf (F_X5_refuse h q0 (-2 : Int32)) (fun y13 => (y13.1, y13.2))) else (if (hv h (hr h q0 24) a1.toNatClampNeg) < (hv h q0 12) then (letf (F_X5_refuse h q0 (-5 : Int32)) (fun y3 => (y3.1, y3.2))) else (letf (F_X5_drawableMany h q0) (fun y4 => (if y4 = (0 : Int32) then (letf (F_X5_refuse h q0 (-5 : Int32)) (fun y12 => (y12.1, y12.2))) else (letf (hput h (hr h q0 24) a1.toNatClampNeg (.inl (.int ((hv h (hr h q0 24) a1.toNatClampNeg) - (hv h q0 12))))) (fun h6 => (letf (hput h6 q0 14 (.inl (.int ((hv h6 q0 14) + (hv h6 q0 12))))) (fun h7 => (fx (B_X5_five_72 q0 a1) (0, []) ((0 : Int32), (0 : Int32), h7)))))))))))))
theorem x_X5_five {scr : List zV} {T : List Nat} {h : zH} {q0 : Nat} {a1 : Int32} (hsc : cT scr) (K : hOK kty T h) (hq_q0 : T[q0]? = some 5) (hh : cH h) : xIH scr W_X5_five T T 180 [.inl (.ref q0), .inl (.int a1)] h (F_X5_five h q0 a1) := by
  refine xIH_intro (E := ze_X5_five) hsc rfl (cTb_ok rfl) hh (fun d r h' G HG Pf hR m => ?_)
  have K := kOK_refl (W := W_X5_five) K
  unfold F_X5_five
  show G m _ (0, [(0, .inl (.ref q0)), (1, .inl (.int a1))], [], h, 0, 0)
  refine k_steps HG 2 (zB_iff.mpr (?_ : G m _ (2, [(0, .inl (.ref q0)), (1, .inl (.int a1))], [.inl (.int a1), .inl (.ref q0)], h, 0, 0)))
  refine k_cVI HG (E' := ze_X5_isBuyer) (Or.inl ⟨rfl, rfl⟩) hsc rfl rfl rfl rfl rfl (fun hh => x_X5_isBuyer hsc K.1 hq_q0 hh) (fun y1 => (?_ : G m _ (5, [(0, .inl (.ref q0)), (1, .inl (.int a1))], [.inl (.int y1)], h, 0, 0)))
  refine k_steps HG 1 (kb_ne (x := y1) (y := (0 : Int32)) ?_ ?_)
  · show G m _ (15, [(0, .inl (.ref q0)), (1, .inl (.int a1))], [], h, 0, 0)
    refine k_steps HG 1 (zB_iff.mpr (?_ : G m _ (16, [(0, .inl (.ref q0)), (1, .inl (.int a1))], [.inl (.ref q0)], h, 0, 0)))
    refine k_getR HG rfl K hq_q0 rfl (Nat.le_of_ble_eq_true rfl) rfl rfl (fun t2 => (?_ : G m _ (19, [(0, .inl (.ref q0)), (1, .inl (.int a1))], [.inl (.ref (hr h q0 24))], h, 0, 0)))
    refine k_steps HG 1 (zB_iff.mpr (?_ : G m _ (20, [(0, .inl (.ref q0)), (1, .inl (.int a1))], [.inl (.int a1), .inl (.ref (hr h q0 24))], h, 0, 0)))
    refine k_iald HG rfl K t2 rfl (fun _ => rfl) (?_ : G m _ (21, [(0, .inl (.ref q0)), (1, .inl (.int a1))], [.inl (.int (hv h (hr h q0 24) a1.toNatClampNeg))], h, 0, 0))
    refine k_steps HG 1 (zB_iff.mpr (?_ : G m _ (22, [(0, .inl (.ref q0)), (1, .inl (.int a1))], [.inl (.ref q0), .inl (.int (hv h (hr h q0 24) a1.toNatClampNeg))], h, 0, 0)))
    refine k_getI HG rfl K hq_q0 rfl (Nat.le_of_ble_eq_true rfl) rfl (?_ : G m _ (25, [(0, .inl (.ref q0)), (1, .inl (.int a1))], [.inl (.int (hv h q0 12)), .inl (.int (hv h (hr h q0 24) a1.toNatClampNeg))], h, 0, 0))
    refine k_steps HG 1 (kb_lt (x := (hv h (hr h q0 24) a1.toNatClampNeg)) (y := (hv h q0 12)) ?_ ?_)
    · show G m _ (35, [(0, .inl (.ref q0)), (1, .inl (.int a1))], [], h, 0, 0)
      refine k_steps HG 2 (zB_iff.mpr (?_ : G m _ (38, [(0, .inl (.ref q0)), (1, .inl (.int a1))], [.inl (.int (-5 : Int32)), .inl (.ref q0)], h, 0, 0)))
      refine k_cVIH HG (E' := ze_X5_refuse) (Or.inl ⟨rfl, rfl⟩) hsc rfl rfl rfl rfl rfl K rfl (fun hh => x_X5_refuse hsc K.1 hq_q0 hh) (fun y3 K3 => (?_ : G m _ (41, [(0, .inl (.ref q0)), (1, .inl (.int a1))], [.inl (.int y3.1)], y3.2, 0, 0)))
      exact k_reti HG rfl rfl (fun e1 e2 => hR _ _ e1 e2 K3)
    · show G m _ (28, [(0, .inl (.ref q0)), (1, .inl (.int a1))], [], h, 0, 0)
      refine k_steps HG 1 (zB_iff.mpr (?_ : G m _ (29, [(0, .inl (.ref q0)), (1, .inl (.int a1))], [.inl (.ref q0)], h, 0, 0)))
      refine k_cVI HG (E' := ze_X5_drawableMany) (Or.inl ⟨rfl, rfl⟩) hsc rfl rfl rfl rfl rfl (fun hh => x_X5_drawableMany hsc K.1 hq_q0 hh) (fun y4 => (?_ : G m _ (32, [(0, .inl (.ref q0)), (1, .inl (.int a1))], [.inl (.int y4)], h, 0, 0)))
      refine k_steps HG 1 (kb_ne (x := y4) (y := (0 : Int32)) ?_ ?_)
      · show G m _ (42, [(0, .inl (.ref q0)), (1, .inl (.int a1))], [], h, 0, 0)
        refine k_steps HG 1 (zB_iff.mpr (?_ : G m _ (43, [(0, .inl (.ref q0)), (1, .inl (.int a1))], [.inl (.ref q0)], h, 0, 0)))
        refine k_getR HG rfl K hq_q0 rfl (Nat.le_of_ble_eq_true rfl) rfl rfl (fun t5 => (?_ : G m _ (46, [(0, .inl (.ref q0)), (1, .inl (.int a1))], [.inl (.ref (hr h q0 24))], h, 0, 0)))
        refine k_steps HG 2 (zB_iff.mpr (?_ : G m _ (48, [(0, .inl (.ref q0)), (1, .inl (.int a1))], [.inl (.int a1), .inl (.ref (hr h q0 24)), .inl (.int a1), .inl (.ref (hr h q0 24))], h, 0, 0)))
        refine k_iald HG rfl K t5 rfl (fun _ => rfl) (?_ : G m _ (49, [(0, .inl (.ref q0)), (1, .inl (.int a1))], [.inl (.int (hv h (hr h q0 24) a1.toNatClampNeg)), .inl (.int a1), .inl (.ref (hr h q0 24))], h, 0, 0))
        refine k_steps HG 1 (zB_iff.mpr (?_ : G m _ (50, [(0, .inl (.ref q0)), (1, .inl (.int a1))], [.inl (.ref q0), .inl (.int (hv h (hr h q0 24) a1.toNatClampNeg)), .inl (.int a1), .inl (.ref (hr h q0 24))], h, 0, 0)))
        refine k_getI HG rfl K hq_q0 rfl (Nat.le_of_ble_eq_true rfl) rfl (?_ : G m _ (53, [(0, .inl (.ref q0)), (1, .inl (.int a1))], [.inl (.int (hv h q0 12)), .inl (.int (hv h (hr h q0 24) a1.toNatClampNeg)), .inl (.int a1), .inl (.ref (hr h q0 24))], h, 0, 0))
        refine k_steps HG 1 (zB_iff.mpr (?_ : G m _ (54, [(0, .inl (.ref q0)), (1, .inl (.int a1))], [.inl (.int ((hv h (hr h q0 24) a1.toNatClampNeg) - (hv h q0 12))), .inl (.int a1), .inl (.ref (hr h q0 24))], h, 0, 0)))
        refine k_iast HG rfl K t5 rfl (fun _ => rfl) rfl (fun h6 K6 => (?_ : G m _ (55, [(0, .inl (.ref q0)), (1, .inl (.int a1))], [], h6, 0, 0)))
        refine k_steps HG 2 (zB_iff.mpr (?_ : G m _ (57, [(0, .inl (.ref q0)), (1, .inl (.int a1))], [.inl (.ref q0), .inl (.ref q0)], h6, 0, 0)))
        refine k_getI HG rfl K6 hq_q0 rfl (Nat.le_of_ble_eq_true rfl) rfl (?_ : G m _ (60, [(0, .inl (.ref q0)), (1, .inl (.int a1))], [.inl (.int (hv h6 q0 14)), .inl (.ref q0)], h6, 0, 0))
        refine k_steps HG 1 (zB_iff.mpr (?_ : G m _ (61, [(0, .inl (.ref q0)), (1, .inl (.int a1))], [.inl (.ref q0), .inl (.int (hv h6 q0 14)), .inl (.ref q0)], h6, 0, 0)))
        refine k_getI HG rfl K6 hq_q0 rfl (Nat.le_of_ble_eq_true rfl) rfl (?_ : G m _ (64, [(0, .inl (.ref q0)), (1, .inl (.int a1))], [.inl (.int (hv h6 q0 12)), .inl (.int (hv h6 q0 14)), .inl (.ref q0)], h6, 0, 0))
        refine k_steps HG 1 (zB_iff.mpr (?_ : G m _ (65, [(0, .inl (.ref q0)), (1, .inl (.int a1))], [.inl (.int ((hv h6 q0 14) + (hv h6 q0 12))), .inl (.ref q0)], h6, 0, 0)))
        refine k_putI HG rfl K6 hq_q0 rfl rfl rfl (fun h7 K7 => (?_ : G m _ (68, [(0, .inl (.ref q0)), (1, .inl (.int a1))], [], h7, 0, 0)))
        refine k_steps HG 4 (zB_iff.mpr (?_ : G m _ (72, [(3, .inl (.int (0 : Int32))), (2, .inl (.int (0 : Int32))), (0, .inl (.ref q0)), (1, .inl (.int a1))], [], h7, 0, 0)))
        have lp8 : ∀ m8, m8 ≤ m → ∀ (v8_2 : Int32) (v8_3 : Int32) (h8 : zH), kOK W_X5_five T T h h8 → G m8 (Pf (fx (B_X5_five_72 q0 a1) (0, []) (v8_2, v8_3, h8))) (72, [(0, .inl (.ref q0)), (1, .inl (.int a1)), (2, .inl (.int v8_2)), (3, .inl (.int v8_3))], [], h8, 0, 0) := by
          intro m8
          induction m8 with
          | zero =>
            intros
            exact k_zero HG
          | succ m8 ih8 =>
            intro le8 v8_2 v8_3 h8 K8
            have le8 := Nat.le_of_succ_le le8
            have ih8 := ih8 le8
            refine k_fx ?_
            rw [B_X5_five_72]
            refine k_first HG 2 (kb_ge (x := v8_3) (y := (5 : Int32)) ?_ ?_)
            · show G m8 _ (102, [(0, .inl (.ref q0)), (1, .inl (.int a1)), (2, .inl (.int v8_2)), (3, .inl (.int v8_3))], [], h8, 0, 0)
              refine k_steps HG 1 (zB_iff.mpr (?_ : G m8 _ (103, [(0, .inl (.ref q0)), (1, .inl (.int a1)), (2, .inl (.int v8_2)), (3, .inl (.int v8_3))], [.inl (.int v8_2)], h8, 0, 0)))
              exact k_reti HG rfl rfl (fun e1 e2 => hR _ _ e1 e2 K8)
            · show G m8 _ (77, [(0, .inl (.ref q0)), (1, .inl (.int a1)), (2, .inl (.int v8_2)), (3, .inl (.int v8_3))], [], h8, 0, 0)
              refine k_steps HG 1 (zB_iff.mpr (?_ : G m8 _ (78, [(0, .inl (.ref q0)), (1, .inl (.int a1)), (2, .inl (.int v8_2)), (3, .inl (.int v8_3))], [.inl (.ref q0)], h8, 0, 0)))
              refine k_cVI HG (E' := ze_X5_drawableMany) (Or.inl ⟨rfl, rfl⟩) hsc rfl rfl rfl rfl rfl (fun hh => x_X5_drawableMany hsc K8.1 hq_q0 hh) (fun y9 => (?_ : G m8 _ (81, [(0, .inl (.ref q0)), (1, .inl (.int a1)), (2, .inl (.int v8_2)), (3, .inl (.int v8_3))], [.inl (.int y9)], h8, 0, 0)))
              refine k_steps HG 1 (kb_le (x := y9) (y := (0 : Int32)) ?_ ?_)
              · show G m8 _ (102, [(0, .inl (.ref q0)), (1, .inl (.int a1)), (2, .inl (.int v8_2)), (3, .inl (.int v8_3))], [], h8, 0, 0)
                refine k_steps HG 1 (zB_iff.mpr (?_ : G m8 _ (103, [(0, .inl (.ref q0)), (1, .inl (.int a1)), (2, .inl (.int v8_2)), (3, .inl (.int v8_3))], [.inl (.int v8_2)], h8, 0, 0)))
                exact k_reti HG rfl rfl (fun e1 e2 => hR _ _ e1 e2 K8)
              · show G m8 _ (84, [(0, .inl (.ref q0)), (1, .inl (.int a1)), (2, .inl (.int v8_2)), (3, .inl (.int v8_3))], [], h8, 0, 0)
                refine k_steps HG 3 (zB_iff.mpr (?_ : G m8 _ (87, [(0, .inl (.ref q0)), (1, .inl (.int a1)), (2, .inl (.int v8_2)), (3, .inl (.int v8_3))], [.inl (.ref q0), .inl (.ref q0), .inl (.int v8_2)], h8, 0, 0)))
                refine k_cVIH HG (E' := ze_X5_drawn) (Or.inl ⟨rfl, rfl⟩) hsc rfl rfl rfl rfl rfl K8 rfl (fun hh => x_X5_drawn hsc K8.1 hq_q0 hh) (fun y10 K10 => (?_ : G m8 _ (90, [(0, .inl (.ref q0)), (1, .inl (.int a1)), (2, .inl (.int v8_2)), (3, .inl (.int v8_3))], [.inl (.int y10.1), .inl (.ref q0), .inl (.int v8_2)], y10.2, 0, 0)))
                refine k_steps HG 1 (zB_iff.mpr (?_ : G m8 _ (91, [(0, .inl (.ref q0)), (1, .inl (.int a1)), (2, .inl (.int v8_2)), (3, .inl (.int v8_3))], [.inl (.int a1), .inl (.int y10.1), .inl (.ref q0), .inl (.int v8_2)], y10.2, 0, 0)))
                refine k_cVIH HG (E' := ze_X5_comesOut) (Or.inl ⟨rfl, rfl⟩) hsc rfl rfl rfl rfl rfl K10 rfl (fun hh => x_X5_comesOut hsc K10.1 hq_q0 hh) (fun y11 K11 => (?_ : G m8 _ (94, [(0, .inl (.ref q0)), (1, .inl (.int a1)), (2, .inl (.int v8_2)), (3, .inl (.int v8_3))], [.inl (.int y11.1), .inl (.int v8_2)], y11.2, 0, 0)))
                refine k_steps HG 4 (zB_iff.mpr (?_ : G m8 _ (72, [(3, .inl (.int (v8_3 + (1 : Int32)))), (2, .inl (.int (v8_2 ||| y11.1))), (0, .inl (.ref q0)), (1, .inl (.int a1))], [], y11.2, 0, 0)))
                refine k_ext HG (L' := [(0, .inl (.ref q0)), (1, .inl (.int a1)), (2, .inl (.int (v8_2 ||| y11.1))), (3, .inl (.int (v8_3 + (1 : Int32))))]) rfl rfl ⟨rfl, rfl, rfl, rfl, trivial⟩ ?_
                exact ih8 _ _ _ K11
        refine k_ext HG (L' := [(0, .inl (.ref q0)), (1, .inl (.int a1)), (2, .inl (.int (0 : Int32))), (3, .inl (.int (0 : Int32)))]) rfl rfl ⟨rfl, rfl, rfl, rfl, trivial⟩ ?_
        exact lp8 m (Nat.le_refl _) _ _ _ K7
      · show G m _ (35, [(0, .inl (.ref q0)), (1, .inl (.int a1))], [], h, 0, 0)
        refine k_steps HG 2 (zB_iff.mpr (?_ : G m _ (38, [(0, .inl (.ref q0)), (1, .inl (.int a1))], [.inl (.int (-5 : Int32)), .inl (.ref q0)], h, 0, 0)))
        refine k_cVIH HG (E' := ze_X5_refuse) (Or.inl ⟨rfl, rfl⟩) hsc rfl rfl rfl rfl rfl K rfl (fun hh => x_X5_refuse hsc K.1 hq_q0 hh) (fun y12 K12 => (?_ : G m _ (41, [(0, .inl (.ref q0)), (1, .inl (.int a1))], [.inl (.int y12.1)], y12.2, 0, 0)))
        exact k_reti HG rfl rfl (fun e1 e2 => hR _ _ e1 e2 K12)
  · show G m _ (8, [(0, .inl (.ref q0)), (1, .inl (.int a1))], [], h, 0, 0)
    refine k_steps HG 2 (zB_iff.mpr (?_ : G m _ (11, [(0, .inl (.ref q0)), (1, .inl (.int a1))], [.inl (.int (-2 : Int32)), .inl (.ref q0)], h, 0, 0)))
    refine k_cVIH HG (E' := ze_X5_refuse) (Or.inl ⟨rfl, rfl⟩) hsc rfl rfl rfl rfl rfl K rfl (fun hh => x_X5_refuse hsc K.1 hq_q0 hh) (fun y13 K13 => (?_ : G m _ (14, [(0, .inl (.ref q0)), (1, .inl (.int a1))], [.inl (.int y13.1)], y13.2, 0, 0)))
    exact k_reti HG rfl rfl (fun e1 e2 => hR _ _ e1 e2 K13)
def W_X5_goesOne : List (Nat × Nat) := [(5, 13), (5, 14), (5, 15), (31, 1000), (35, 1000), (36, 1000), (37, 1000)]
noncomputable def F_X5_goesOne (h : zH) (q0 : Nat) (a1 : Int32) : Int32 × zH := (letf (hput h (hr h q0 24) a1.toNatClampNeg (.inl (.int ((hv h (hr h q0 24) a1.toNatClampNeg) - (hv h q0 11))))) (fun h2 => (letf (hput h2 q0 14 (.inl (.int ((hv h2 q0 14) + (hv h2 q0 11))))) (fun h3 => (letf (F_X5_drawn h3 q0) (fun y4 => (letf (F_X5_comesOut y4.2 q0 y4.1 a1) (fun y5 => (y4.1, y5.2)))))))))
theorem x_X5_goesOne {scr : List zV} {T : List Nat} {h : zH} {q0 : Nat} {a1 : Int32} (hsc : cT scr) (K : hOK kty T h) (hq_q0 : T[q0]? = some 5) (hh : cH h) : xIH scr W_X5_goesOne T T 187 [.inl (.ref q0), .inl (.int a1)] h (F_X5_goesOne h q0 a1) := by
  refine xIH_intro (E := ze_X5_goesOne) hsc rfl (cTb_ok rfl) hh (fun d r h' G HG Pf hR m => ?_)
  have K := kOK_refl (W := W_X5_goesOne) K
  unfold F_X5_goesOne
  show G m _ (0, [(0, .inl (.ref q0)), (1, .inl (.int a1))], [], h, 0, 0)
  refine k_steps HG 1 (zB_iff.mpr (?_ : G m _ (1, [(0, .inl (.ref q0)), (1, .inl (.int a1))], [.inl (.ref q0)], h, 0, 0)))
  refine k_getR HG rfl K hq_q0 rfl (Nat.le_of_ble_eq_true rfl) rfl rfl (fun t1 => (?_ : G m _ (4, [(0, .inl (.ref q0)), (1, .inl (.int a1))], [.inl (.ref (hr h q0 24))], h, 0, 0)))
  refine k_steps HG 2 (zB_iff.mpr (?_ : G m _ (6, [(0, .inl (.ref q0)), (1, .inl (.int a1))], [.inl (.int a1), .inl (.ref (hr h q0 24)), .inl (.int a1), .inl (.ref (hr h q0 24))], h, 0, 0)))
  refine k_iald HG rfl K t1 rfl (fun _ => rfl) (?_ : G m _ (7, [(0, .inl (.ref q0)), (1, .inl (.int a1))], [.inl (.int (hv h (hr h q0 24) a1.toNatClampNeg)), .inl (.int a1), .inl (.ref (hr h q0 24))], h, 0, 0))
  refine k_steps HG 1 (zB_iff.mpr (?_ : G m _ (8, [(0, .inl (.ref q0)), (1, .inl (.int a1))], [.inl (.ref q0), .inl (.int (hv h (hr h q0 24) a1.toNatClampNeg)), .inl (.int a1), .inl (.ref (hr h q0 24))], h, 0, 0)))
  refine k_getI HG rfl K hq_q0 rfl (Nat.le_of_ble_eq_true rfl) rfl (?_ : G m _ (11, [(0, .inl (.ref q0)), (1, .inl (.int a1))], [.inl (.int (hv h q0 11)), .inl (.int (hv h (hr h q0 24) a1.toNatClampNeg)), .inl (.int a1), .inl (.ref (hr h q0 24))], h, 0, 0))
  refine k_steps HG 1 (zB_iff.mpr (?_ : G m _ (12, [(0, .inl (.ref q0)), (1, .inl (.int a1))], [.inl (.int ((hv h (hr h q0 24) a1.toNatClampNeg) - (hv h q0 11))), .inl (.int a1), .inl (.ref (hr h q0 24))], h, 0, 0)))
  refine k_iast HG rfl K t1 rfl (fun _ => rfl) rfl (fun h2 K2 => (?_ : G m _ (13, [(0, .inl (.ref q0)), (1, .inl (.int a1))], [], h2, 0, 0)))
  refine k_steps HG 2 (zB_iff.mpr (?_ : G m _ (15, [(0, .inl (.ref q0)), (1, .inl (.int a1))], [.inl (.ref q0), .inl (.ref q0)], h2, 0, 0)))
  refine k_getI HG rfl K2 hq_q0 rfl (Nat.le_of_ble_eq_true rfl) rfl (?_ : G m _ (18, [(0, .inl (.ref q0)), (1, .inl (.int a1))], [.inl (.int (hv h2 q0 14)), .inl (.ref q0)], h2, 0, 0))
  refine k_steps HG 1 (zB_iff.mpr (?_ : G m _ (19, [(0, .inl (.ref q0)), (1, .inl (.int a1))], [.inl (.ref q0), .inl (.int (hv h2 q0 14)), .inl (.ref q0)], h2, 0, 0)))
  refine k_getI HG rfl K2 hq_q0 rfl (Nat.le_of_ble_eq_true rfl) rfl (?_ : G m _ (22, [(0, .inl (.ref q0)), (1, .inl (.int a1))], [.inl (.int (hv h2 q0 11)), .inl (.int (hv h2 q0 14)), .inl (.ref q0)], h2, 0, 0))
  refine k_steps HG 1 (zB_iff.mpr (?_ : G m _ (23, [(0, .inl (.ref q0)), (1, .inl (.int a1))], [.inl (.int ((hv h2 q0 14) + (hv h2 q0 11))), .inl (.ref q0)], h2, 0, 0)))
  refine k_putI HG rfl K2 hq_q0 rfl rfl rfl (fun h3 K3 => (?_ : G m _ (26, [(0, .inl (.ref q0)), (1, .inl (.int a1))], [], h3, 0, 0)))
  refine k_steps HG 1 (zB_iff.mpr (?_ : G m _ (27, [(0, .inl (.ref q0)), (1, .inl (.int a1))], [.inl (.ref q0)], h3, 0, 0)))
  refine k_cVIH HG (E' := ze_X5_drawn) (Or.inl ⟨rfl, rfl⟩) hsc rfl rfl rfl rfl rfl K3 rfl (fun hh => x_X5_drawn hsc K3.1 hq_q0 hh) (fun y4 K4 => (?_ : G m _ (30, [(0, .inl (.ref q0)), (1, .inl (.int a1))], [.inl (.int y4.1)], y4.2, 0, 0)))
  refine k_steps HG 4 (zB_iff.mpr (?_ : G m _ (34, [(2, .inl (.int y4.1)), (0, .inl (.ref q0)), (1, .inl (.int a1))], [.inl (.int a1), .inl (.int y4.1), .inl (.ref q0)], y4.2, 0, 0)))
  refine k_cVIH HG (E' := ze_X5_comesOut) (Or.inl ⟨rfl, rfl⟩) hsc rfl rfl rfl rfl rfl K4 rfl (fun hh => x_X5_comesOut hsc K4.1 hq_q0 hh) (fun y5 K5 => (?_ : G m _ (37, [(2, .inl (.int y4.1)), (0, .inl (.ref q0)), (1, .inl (.int a1))], [.inl (.int y5.1)], y5.2, 0, 0)))
  refine k_steps HG 2 (zB_iff.mpr (?_ : G m _ (39, [(2, .inl (.int y4.1)), (0, .inl (.ref q0)), (1, .inl (.int a1))], [.inl (.int y4.1)], y5.2, 0, 0)))
  exact k_reti HG rfl rfl (fun e1 e2 => hR _ _ e1 e2 K5)
def W_X5_priceTold : List (Nat × Nat) := [(5, 11), (5, 12), (5, 28), (5, 29), (5, 30), (5, 31), (5, 32), (40, 1000)]
noncomputable def F_X5_priceTold (h : zH) (q0 : Nat) : Int32 × zH := (letf (F_X5_tells h q0 (1 : Int32) (99 : Int32)) (fun y1 => (if y1.1 = (0 : Int32) then ((0 : Int32), y1.2) else (letf (hput y1.2 q0 11 (.inl (.int (hv y1.2 (hr y1.2 q0 33) (0 : Int32).toNatClampNeg)))) (fun h3 => (letf (F_X5_isWord h3 q0 1000007) (fun y4 => (if y4 = (0 : Int32) then ((1 : Int32), h3) else (letf (F_X5_tells h3 q0 (1 : Int32) (495 : Int32)) (fun y5 => (if y5.1 = (0 : Int32) then ((0 : Int32), y5.2) else (letf (hput y5.2 q0 12 (.inl (.int (hv y5.2 (hr y5.2 q0 33) (0 : Int32).toNatClampNeg)))) (fun h7 => ((1 : Int32), h7))))))))))))))
theorem x_X5_priceTold {scr : List zV} {T : List Nat} {h : zH} {q0 : Nat} (hsc : cT scr) (K : hOK kty T h) (hq_q0 : T[q0]? = some 5) (hh : cH h) : xIH scr W_X5_priceTold T T 213 [.inl (.ref q0)] h (F_X5_priceTold h q0) := by
  refine xIH_intro (E := ze_X5_priceTold) hsc rfl (cTb_ok rfl) hh (fun d r h' G HG Pf hR m => ?_)
  have K := kOK_refl (W := W_X5_priceTold) K
  unfold F_X5_priceTold
  show G m _ (0, [(0, .inl (.ref q0))], [], h, 0, 0)
  refine k_steps HG 3 (zB_iff.mpr (?_ : G m _ (4, [(0, .inl (.ref q0))], [.inl (.int (99 : Int32)), .inl (.int (1 : Int32)), .inl (.ref q0)], h, 0, 0)))
  refine k_cVIH HG (E' := ze_X5_tells) (Or.inl ⟨rfl, rfl⟩) hsc rfl rfl rfl rfl rfl K rfl (fun hh => x_X5_tells hsc K.1 hq_q0 hh) (fun y1 K1 => (?_ : G m _ (7, [(0, .inl (.ref q0))], [.inl (.int y1.1)], y1.2, 0, 0)))
  refine k_steps HG 1 (kb_ne (x := y1.1) (y := (0 : Int32)) ?_ ?_)
  · show G m _ (12, [(0, .inl (.ref q0))], [], y1.2, 0, 0)
    refine k_steps HG 2 (zB_iff.mpr (?_ : G m _ (14, [(0, .inl (.ref q0))], [.inl (.ref q0), .inl (.ref q0)], y1.2, 0, 0)))
    refine k_getR HG rfl K1 hq_q0 rfl (Nat.le_of_ble_eq_true rfl) rfl rfl (fun t2 => (?_ : G m _ (17, [(0, .inl (.ref q0))], [.inl (.ref (hr y1.2 q0 33)), .inl (.ref q0)], y1.2, 0, 0)))
    refine k_steps HG 1 (zB_iff.mpr (?_ : G m _ (18, [(0, .inl (.ref q0))], [.inl (.int (0 : Int32)), .inl (.ref (hr y1.2 q0 33)), .inl (.ref q0)], y1.2, 0, 0)))
    refine k_iald HG rfl K1 t2 rfl (fun _ => rfl) (?_ : G m _ (19, [(0, .inl (.ref q0))], [.inl (.int (hv y1.2 (hr y1.2 q0 33) (0 : Int32).toNatClampNeg)), .inl (.ref q0)], y1.2, 0, 0))
    refine k_putI HG rfl K1 hq_q0 rfl rfl rfl (fun h3 K3 => (?_ : G m _ (22, [(0, .inl (.ref q0))], [], h3, 0, 0)))
    refine k_steps HG 2 (zB_iff.mpr (?_ : G m _ (25, [(0, .inl (.ref q0))], [.inl (.ref 1000007), .inl (.ref q0)], h3, 0, 0)))
    refine k_cVI HG (E' := ze_X5_isWord) (Or.inl ⟨rfl, rfl⟩) hsc rfl rfl rfl rfl rfl (fun hh => x_X5_isWord hsc K3.1 hq_q0 hh) (fun y4 => (?_ : G m _ (28, [(0, .inl (.ref q0))], [.inl (.int y4)], h3, 0, 0)))
    refine k_steps HG 1 (kb_eq (x := y4) (y := (0 : Int32)) ?_ ?_)
    · show G m _ (54, [(0, .inl (.ref q0))], [], h3, 0, 0)
      refine k_steps HG 1 (zB_iff.mpr (?_ : G m _ (55, [(0, .inl (.ref q0))], [.inl (.int (1 : Int32))], h3, 0, 0)))
      exact k_retz HG rfl rfl (fun e1 e2 => hR _ _ e1 e2 K3)
    · show G m _ (31, [(0, .inl (.ref q0))], [], h3, 0, 0)
      refine k_steps HG 3 (zB_iff.mpr (?_ : G m _ (36, [(0, .inl (.ref q0))], [.inl (.int (495 : Int32)), .inl (.int (1 : Int32)), .inl (.ref q0)], h3, 0, 0)))
      refine k_cVIH HG (E' := ze_X5_tells) (Or.inl ⟨rfl, rfl⟩) hsc rfl rfl rfl rfl rfl K3 rfl (fun hh => x_X5_tells hsc K3.1 hq_q0 hh) (fun y5 K5 => (?_ : G m _ (39, [(0, .inl (.ref q0))], [.inl (.int y5.1)], y5.2, 0, 0)))
      refine k_steps HG 1 (kb_ne (x := y5.1) (y := (0 : Int32)) ?_ ?_)
      · show G m _ (44, [(0, .inl (.ref q0))], [], y5.2, 0, 0)
        refine k_steps HG 2 (zB_iff.mpr (?_ : G m _ (46, [(0, .inl (.ref q0))], [.inl (.ref q0), .inl (.ref q0)], y5.2, 0, 0)))
        refine k_getR HG rfl K5 hq_q0 rfl (Nat.le_of_ble_eq_true rfl) rfl rfl (fun t6 => (?_ : G m _ (49, [(0, .inl (.ref q0))], [.inl (.ref (hr y5.2 q0 33)), .inl (.ref q0)], y5.2, 0, 0)))
        refine k_steps HG 1 (zB_iff.mpr (?_ : G m _ (50, [(0, .inl (.ref q0))], [.inl (.int (0 : Int32)), .inl (.ref (hr y5.2 q0 33)), .inl (.ref q0)], y5.2, 0, 0)))
        refine k_iald HG rfl K5 t6 rfl (fun _ => rfl) (?_ : G m _ (51, [(0, .inl (.ref q0))], [.inl (.int (hv y5.2 (hr y5.2 q0 33) (0 : Int32).toNatClampNeg)), .inl (.ref q0)], y5.2, 0, 0))
        refine k_putI HG rfl K5 hq_q0 rfl rfl rfl (fun h7 K7 => (?_ : G m _ (54, [(0, .inl (.ref q0))], [], h7, 0, 0)))
        refine k_steps HG 1 (zB_iff.mpr (?_ : G m _ (55, [(0, .inl (.ref q0))], [.inl (.int (1 : Int32))], h7, 0, 0)))
        exact k_retz HG rfl rfl (fun e1 e2 => hR _ _ e1 e2 K7)
      · show G m _ (42, [(0, .inl (.ref q0))], [], y5.2, 0, 0)
        refine k_steps HG 1 (zB_iff.mpr (?_ : G m _ (43, [(0, .inl (.ref q0))], [.inl (.int (0 : Int32))], y5.2, 0, 0)))
        exact k_retz HG rfl rfl (fun e1 e2 => hR _ _ e1 e2 K5)
  · show G m _ (10, [(0, .inl (.ref q0))], [], y1.2, 0, 0)
    refine k_steps HG 1 (zB_iff.mpr (?_ : G m _ (11, [(0, .inl (.ref q0))], [.inl (.int (0 : Int32))], y1.2, 0, 0)))
    exact k_retz HG rfl rfl (fun e1 e2 => hR _ _ e1 e2 K1)
noncomputable def B_X5_takingsAt_10 (h : zH) (c0 : Nat) (c1 : Int32) (s : (Int32 × Int32 × Int32)) : (Int32 × Int32 × Int32) ⊕ (Int32) := (if s.2.2 < (hv h c0 23) then (letf (F_X5_worthTo h c0 s.2.2) (fun y1001 => (if y1001 < ((1000 : Int32) * c1) then (Sum.inl (s.1, s.2.1, (s.2.2 + (1 : Int32)))) else (if ((hv h (hr h c0 24) s.2.2.toNatClampNeg) / c1) < s.1 then (Sum.inl ((s.1 - ((hv h (hr h c0 24) s.2.2.toNatClampNeg) / c1)), (s.2.1 + (((hv h (hr h c0 24) s.2.2.toNatClampNeg) / c1) * c1)), (s.2.2 + (1 : Int32)))) else (Sum.inl ((s.1 - s.1), (s.2.1 + (s.1 * c1)), (s.2.2 + (1 : Int32)))))))) else (Sum.inr s.2.1))
noncomputable def F_X5_takingsAt (h : zH) (q0 : Nat) (a1 : Int32) : Int32 := (letf (F_X5_inside h q0) (fun y1 => (fx (B_X5_takingsAt_10 h q0 a1) 0 (y1, (0 : Int32), (0 : Int32)))))
theorem x_X5_takingsAt {scr : List zV} {T : List Nat} {h : zH} {q0 : Nat} {a1 : Int32} (hsc : cT scr) (K : hOK kty T h) (hq_q0 : T[q0]? = some 5) (hh : cH h) : xI scr 234 [.inl (.ref q0), .inl (.int a1)] h (F_X5_takingsAt h q0 a1) := by
  refine xI_intro (E := ze_X5_takingsAt) hsc rfl (cTb_ok rfl) hh (fun d r h' G HG Pf hR m => ?_)
  have K := kOK_refl (W := []) K
  unfold F_X5_takingsAt
  show G m _ (0, [(0, .inl (.ref q0)), (1, .inl (.int a1))], [], h, 0, 0)
  refine k_steps HG 1 (zB_iff.mpr (?_ : G m _ (1, [(0, .inl (.ref q0)), (1, .inl (.int a1))], [.inl (.ref q0)], h, 0, 0)))
  refine k_cVI HG (E' := ze_X5_inside) (Or.inl ⟨rfl, rfl⟩) hsc rfl rfl rfl rfl rfl (fun hh => x_X5_inside hsc K.1 hq_q0 hh) (fun y1 => (?_ : G m _ (4, [(0, .inl (.ref q0)), (1, .inl (.int a1))], [.inl (.int y1)], h, 0, 0)))
  refine k_steps HG 5 (zB_iff.mpr (?_ : G m _ (10, [(4, .inl (.int (0 : Int32))), (3, .inl (.int (0 : Int32))), (2, .inl (.int y1)), (0, .inl (.ref q0)), (1, .inl (.int a1))], [], h, 0, 0)))
  have lp2 : ∀ m2, m2 ≤ m → ∀ (d2_5 : Int32) (v2_2 : Int32) (v2_3 : Int32) (v2_4 : Int32), G m2 (Pf (fx (B_X5_takingsAt_10 h q0 a1) 0 (v2_2, v2_3, v2_4))) (10, [(0, .inl (.ref q0)), (1, .inl (.int a1)), (2, .inl (.int v2_2)), (3, .inl (.int v2_3)), (4, .inl (.int v2_4)), (5, .inl (.int d2_5))], [], h, 0, 0) := by
    intro m2
    induction m2 with
    | zero =>
      intros
      exact k_zero HG
    | succ m2 ih2 =>
      intro le2 d2_5 v2_2 v2_3 v2_4
      have le2 := Nat.le_of_succ_le le2
      have ih2 := ih2 le2
      refine k_fx ?_
      rw [B_X5_takingsAt_10]
      refine k_first HG 1 (zB_iff.mpr (?_ : G m2 _ (13, [(0, .inl (.ref q0)), (1, .inl (.int a1)), (2, .inl (.int v2_2)), (3, .inl (.int v2_3)), (4, .inl (.int v2_4)), (5, .inl (.int d2_5))], [.inl (.ref q0), .inl (.int v2_4)], h, 0, 0)))
      refine k_getI HG rfl K hq_q0 rfl (Nat.le_of_ble_eq_true rfl) rfl (?_ : G m2 _ (16, [(0, .inl (.ref q0)), (1, .inl (.int a1)), (2, .inl (.int v2_2)), (3, .inl (.int v2_3)), (4, .inl (.int v2_4)), (5, .inl (.int d2_5))], [.inl (.int (hv h q0 23)), .inl (.int v2_4)], h, 0, 0))
      refine k_steps HG 1 (kb_ge (x := v2_4) (y := (hv h q0 23)) ?_ ?_)
      · show G m2 _ (79, [(0, .inl (.ref q0)), (1, .inl (.int a1)), (2, .inl (.int v2_2)), (3, .inl (.int v2_3)), (4, .inl (.int v2_4)), (5, .inl (.int d2_5))], [], h, 0, 0)
        refine k_steps HG 1 (zB_iff.mpr (?_ : G m2 _ (80, [(0, .inl (.ref q0)), (1, .inl (.int a1)), (2, .inl (.int v2_2)), (3, .inl (.int v2_3)), (4, .inl (.int v2_4)), (5, .inl (.int d2_5))], [.inl (.int v2_3)], h, 0, 0)))
        exact k_reti HG rfl rfl (fun e1 e2 => hR _ e1 e2)
      · show G m2 _ (19, [(0, .inl (.ref q0)), (1, .inl (.int a1)), (2, .inl (.int v2_2)), (3, .inl (.int v2_3)), (4, .inl (.int v2_4)), (5, .inl (.int d2_5))], [], h, 0, 0)
        refine k_steps HG 2 (zB_iff.mpr (?_ : G m2 _ (22, [(0, .inl (.ref q0)), (1, .inl (.int a1)), (2, .inl (.int v2_2)), (3, .inl (.int v2_3)), (4, .inl (.int v2_4)), (5, .inl (.int d2_5))], [.inl (.int v2_4), .inl (.ref q0)], h, 0, 0)))
        refine k_cVI HG (E' := ze_X5_worthTo) (Or.inl ⟨rfl, rfl⟩) hsc rfl rfl rfl rfl rfl (fun hh => x_X5_worthTo hsc K.1 hq_q0 hh) (fun y3 => (?_ : G m2 _ (25, [(0, .inl (.ref q0)), (1, .inl (.int a1)), (2, .inl (.int v2_2)), (3, .inl (.int v2_3)), (4, .inl (.int v2_4)), (5, .inl (.int d2_5))], [.inl (.int y3)], h, 0, 0)))
        refine k_steps HG 4 (kb_lt (x := y3) (y := ((1000 : Int32) * a1)) ?_ ?_)
        · show G m2 _ (73, [(0, .inl (.ref q0)), (1, .inl (.int a1)), (2, .inl (.int v2_2)), (3, .inl (.int v2_3)), (4, .inl (.int v2_4)), (5, .inl (.int d2_5))], [], h, 0, 0)
          refine k_steps HG 2 (zB_iff.mpr (?_ : G m2 _ (10, [(4, .inl (.int (v2_4 + (1 : Int32)))), (0, .inl (.ref q0)), (1, .inl (.int a1)), (2, .inl (.int v2_2)), (3, .inl (.int v2_3)), (5, .inl (.int d2_5))], [], h, 0, 0)))
          refine k_ext HG (L' := [(0, .inl (.ref q0)), (1, .inl (.int a1)), (2, .inl (.int v2_2)), (3, .inl (.int v2_3)), (4, .inl (.int (v2_4 + (1 : Int32)))), (5, .inl (.int d2_5))]) rfl rfl ⟨rfl, rfl, rfl, rfl, rfl, rfl, trivial⟩ ?_
          exact ih2 _ _ _ _
        · show G m2 _ (33, [(0, .inl (.ref q0)), (1, .inl (.int a1)), (2, .inl (.int v2_2)), (3, .inl (.int v2_3)), (4, .inl (.int v2_4)), (5, .inl (.int d2_5))], [], h, 0, 0)
          refine k_steps HG 1 (zB_iff.mpr (?_ : G m2 _ (34, [(0, .inl (.ref q0)), (1, .inl (.int a1)), (2, .inl (.int v2_2)), (3, .inl (.int v2_3)), (4, .inl (.int v2_4)), (5, .inl (.int d2_5))], [.inl (.ref q0)], h, 0, 0)))
          refine k_getR HG rfl K hq_q0 rfl (Nat.le_of_ble_eq_true rfl) rfl rfl (fun t4 => (?_ : G m2 _ (37, [(0, .inl (.ref q0)), (1, .inl (.int a1)), (2, .inl (.int v2_2)), (3, .inl (.int v2_3)), (4, .inl (.int v2_4)), (5, .inl (.int d2_5))], [.inl (.ref (hr h q0 24))], h, 0, 0)))
          refine k_steps HG 1 (zB_iff.mpr (?_ : G m2 _ (39, [(0, .inl (.ref q0)), (1, .inl (.int a1)), (2, .inl (.int v2_2)), (3, .inl (.int v2_3)), (4, .inl (.int v2_4)), (5, .inl (.int d2_5))], [.inl (.int v2_4), .inl (.ref (hr h q0 24))], h, 0, 0)))
          refine k_iald HG rfl K t4 rfl (fun _ => rfl) (?_ : G m2 _ (40, [(0, .inl (.ref q0)), (1, .inl (.int a1)), (2, .inl (.int v2_2)), (3, .inl (.int v2_3)), (4, .inl (.int v2_4)), (5, .inl (.int d2_5))], [.inl (.int (hv h (hr h q0 24) v2_4.toNatClampNeg))], h, 0, 0))
          refine k_steps HG 1 (zB_iff.mpr (?_ : G m2 _ (41, [(0, .inl (.ref q0)), (1, .inl (.int a1)), (2, .inl (.int v2_2)), (3, .inl (.int v2_3)), (4, .inl (.int v2_4)), (5, .inl (.int d2_5))], [.inl (.int a1), .inl (.int (hv h (hr h q0 24) v2_4.toNatClampNeg))], h, 0, 0)))
          refine k_div HG rfl (?_ : G m2 _ (42, [(0, .inl (.ref q0)), (1, .inl (.int a1)), (2, .inl (.int v2_2)), (3, .inl (.int v2_3)), (4, .inl (.int v2_4)), (5, .inl (.int d2_5))], [.inl (.int ((hv h (hr h q0 24) v2_4.toNatClampNeg) / a1))], h, 0, 0))
          refine k_steps HG 2 (kb_ge (x := ((hv h (hr h q0 24) v2_4.toNatClampNeg) / a1)) (y := v2_2) ?_ ?_)
          · show G m2 _ (58, [(0, .inl (.ref q0)), (1, .inl (.int a1)), (2, .inl (.int v2_2)), (3, .inl (.int v2_3)), (4, .inl (.int v2_4)), (5, .inl (.int d2_5))], [], h, 0, 0)
            refine k_steps HG 14 (zB_iff.mpr (?_ : G m2 _ (10, [(4, .inl (.int (v2_4 + (1 : Int32)))), (3, .inl (.int (v2_3 + (v2_2 * a1)))), (2, .inl (.int (v2_2 - v2_2))), (5, .inl (.int v2_2)), (0, .inl (.ref q0)), (1, .inl (.int a1))], [], h, 0, 0)))
            refine k_ext HG (L' := [(0, .inl (.ref q0)), (1, .inl (.int a1)), (2, .inl (.int (v2_2 - v2_2))), (3, .inl (.int (v2_3 + (v2_2 * a1)))), (4, .inl (.int (v2_4 + (1 : Int32)))), (5, .inl (.int v2_2))]) rfl rfl ⟨rfl, rfl, rfl, rfl, rfl, rfl, trivial⟩ ?_
            exact ih2 _ _ _ _
          · show G m2 _ (46, [(0, .inl (.ref q0)), (1, .inl (.int a1)), (2, .inl (.int v2_2)), (3, .inl (.int v2_3)), (4, .inl (.int v2_4)), (5, .inl (.int d2_5))], [], h, 0, 0)
            refine k_steps HG 1 (zB_iff.mpr (?_ : G m2 _ (47, [(0, .inl (.ref q0)), (1, .inl (.int a1)), (2, .inl (.int v2_2)), (3, .inl (.int v2_3)), (4, .inl (.int v2_4)), (5, .inl (.int d2_5))], [.inl (.ref q0)], h, 0, 0)))
            refine k_getR HG rfl K hq_q0 rfl (Nat.le_of_ble_eq_true rfl) rfl rfl (fun t5 => (?_ : G m2 _ (50, [(0, .inl (.ref q0)), (1, .inl (.int a1)), (2, .inl (.int v2_2)), (3, .inl (.int v2_3)), (4, .inl (.int v2_4)), (5, .inl (.int d2_5))], [.inl (.ref (hr h q0 24))], h, 0, 0)))
            refine k_steps HG 1 (zB_iff.mpr (?_ : G m2 _ (52, [(0, .inl (.ref q0)), (1, .inl (.int a1)), (2, .inl (.int v2_2)), (3, .inl (.int v2_3)), (4, .inl (.int v2_4)), (5, .inl (.int d2_5))], [.inl (.int v2_4), .inl (.ref (hr h q0 24))], h, 0, 0)))
            refine k_iald HG rfl K t5 rfl (fun _ => rfl) (?_ : G m2 _ (53, [(0, .inl (.ref q0)), (1, .inl (.int a1)), (2, .inl (.int v2_2)), (3, .inl (.int v2_3)), (4, .inl (.int v2_4)), (5, .inl (.int d2_5))], [.inl (.int (hv h (hr h q0 24) v2_4.toNatClampNeg))], h, 0, 0))
            refine k_steps HG 1 (zB_iff.mpr (?_ : G m2 _ (54, [(0, .inl (.ref q0)), (1, .inl (.int a1)), (2, .inl (.int v2_2)), (3, .inl (.int v2_3)), (4, .inl (.int v2_4)), (5, .inl (.int d2_5))], [.inl (.int a1), .inl (.int (hv h (hr h q0 24) v2_4.toNatClampNeg))], h, 0, 0)))
            refine k_div HG rfl (?_ : G m2 _ (55, [(0, .inl (.ref q0)), (1, .inl (.int a1)), (2, .inl (.int v2_2)), (3, .inl (.int v2_3)), (4, .inl (.int v2_4)), (5, .inl (.int d2_5))], [.inl (.int ((hv h (hr h q0 24) v2_4.toNatClampNeg) / a1))], h, 0, 0))
            refine k_steps HG 14 (zB_iff.mpr (?_ : G m2 _ (10, [(4, .inl (.int (v2_4 + (1 : Int32)))), (3, .inl (.int (v2_3 + (((hv h (hr h q0 24) v2_4.toNatClampNeg) / a1) * a1)))), (2, .inl (.int (v2_2 - ((hv h (hr h q0 24) v2_4.toNatClampNeg) / a1)))), (5, .inl (.int ((hv h (hr h q0 24) v2_4.toNatClampNeg) / a1))), (0, .inl (.ref q0)), (1, .inl (.int a1))], [], h, 0, 0)))
            refine k_ext HG (L' := [(0, .inl (.ref q0)), (1, .inl (.int a1)), (2, .inl (.int (v2_2 - ((hv h (hr h q0 24) v2_4.toNatClampNeg) / a1)))), (3, .inl (.int (v2_3 + (((hv h (hr h q0 24) v2_4.toNatClampNeg) / a1) * a1)))), (4, .inl (.int (v2_4 + (1 : Int32)))), (5, .inl (.int ((hv h (hr h q0 24) v2_4.toNatClampNeg) / a1)))]) rfl rfl ⟨rfl, rfl, rfl, rfl, rfl, rfl, trivial⟩ ?_
            exact ih2 _ _ _ _
  refine k_ext HG (L' := [(0, .inl (.ref q0)), (1, .inl (.int a1)), (2, .inl (.int y1)), (3, .inl (.int (0 : Int32))), (4, .inl (.int (0 : Int32))), (5, .inl (.int (0 : Int32)))]) rfl rfl ⟨rfl, rfl, rfl, rfl, rfl, trivial⟩ ?_
  exact lp2 m (Nat.le_refl _) _ _ _ _
def W_X5_thingTold : List (Nat × Nat) := [(5, 17), (5, 28), (5, 29), (5, 30), (5, 31), (5, 32), (32, 1000), (33, 1000), (34, 1000), (35, 1000), (36, 1000), (39, 1000), (40, 1000)]
noncomputable def F_X5_thingTold (h : zH) (q0 : Nat) : Int32 × zH := (letf (F_X5_tells h q0 (0 : Int32) (5 : Int32)) (fun y1 => (if y1.1 = (0 : Int32) then ((0 : Int32), y1.2) else (if (hv y1.2 q0 29) = (2 : Int32) then (letf (F_X5_isWinner y1.2 q0 (hv y1.2 q0 31)) (fun y3 => (if y3 = (0 : Int32) then (letf (F_X5_wrong y1.2 q0) (fun y4 => (y4.1, y4.2))) else (if (hv y1.2 (hr y1.2 q0 16) (hv y1.2 q0 31).toNatClampNeg) = (0 : Int32) then (letf (F_X5_thingOn y1.2 q0 (hv y1.2 q0 31)) (fun y7 => (if y7 = (-1 : Int32) then (letf (F_X5_number y1.2 q0 (1 : Int32) (1 : Int32) (hv y1.2 q0 9)) (fun y8 => (if y8.1 = (0 : Int32) then ((0 : Int32), y8.2) else (letf (F_X5_number y8.2 q0 (2 : Int32) (0 : Int32) (9 : Int32)) (fun y9 => (if y9.1 = (0 : Int32) then ((0 : Int32), y9.2) else (letf (F_X5_addThing y9.2 q0 (hv y9.2 (hr y9.2 q0 33) (0 : Int32).toNatClampNeg) (hv y9.2 (hr y9.2 q0 33) (1 : Int32).toNatClampNeg) (hv y9.2 (hr y9.2 q0 33) (2 : Int32).toNatClampNeg)) (fun h13 => ((1 : Int32), h13))))))))) else (letf (F_X5_wrong y1.2 q0) (fun y14 => (y14.1, y14.2)))))) else (letf (F_X5_wrong y1.2 q0) (fun y6 => (y6.1, y6.2))))))) else (letf (F_X5_wrong y1.2 q0) (fun y2 => (y2.1, y2.2)))))))
theorem x_X5_thingTold {scr : List zV} {T : List Nat} {h : zH} {q0 : Nat} (hsc : cT scr) (K : hOK kty T h) (hq_q0 : T[q0]? = some 5) (hh : cH h) : xIH scr W_X5_thingTold T T 239 [.inl (.ref q0)] h (F_X5_thingTold h q0) := by
  refine xIH_intro (E := ze_X5_thingTold) hsc rfl (cTb_ok rfl) hh (fun d r h' G HG Pf hR m => ?_)
  have K := kOK_refl (W := W_X5_thingTold) K
  unfold F_X5_thingTold
  show G m _ (0, [(0, .inl (.ref q0))], [], h, 0, 0)
  refine k_steps HG 3 (zB_iff.mpr (?_ : G m _ (3, [(0, .inl (.ref q0))], [.inl (.int (5 : Int32)), .inl (.int (0 : Int32)), .inl (.ref q0)], h, 0, 0)))
  refine k_cVIH HG (E' := ze_X5_tells) (Or.inl ⟨rfl, rfl⟩) hsc rfl rfl rfl rfl rfl K rfl (fun hh => x_X5_tells hsc K.1 hq_q0 hh) (fun y1 K1 => (?_ : G m _ (6, [(0, .inl (.ref q0))], [.inl (.int y1.1)], y1.2, 0, 0)))
  refine k_steps HG 1 (kb_ne (x := y1.1) (y := (0 : Int32)) ?_ ?_)
  · show G m _ (11, [(0, .inl (.ref q0))], [], y1.2, 0, 0)
    refine k_steps HG 1 (zB_iff.mpr (?_ : G m _ (12, [(0, .inl (.ref q0))], [.inl (.ref q0)], y1.2, 0, 0)))
    refine k_getI HG rfl K1 hq_q0 rfl (Nat.le_of_ble_eq_true rfl) rfl (?_ : G m _ (15, [(0, .inl (.ref q0))], [.inl (.int (hv y1.2 q0 29))], y1.2, 0, 0))
    refine k_steps HG 2 (kb_ne (x := (hv y1.2 q0 29)) (y := (2 : Int32)) ?_ ?_)
    · show G m _ (54, [(0, .inl (.ref q0))], [], y1.2, 0, 0)
      refine k_steps HG 1 (zB_iff.mpr (?_ : G m _ (55, [(0, .inl (.ref q0))], [.inl (.ref q0)], y1.2, 0, 0)))
      refine k_cVIH HG (E' := ze_X5_wrong) (Or.inl ⟨rfl, rfl⟩) hsc rfl rfl rfl rfl rfl K1 rfl (fun hh => x_X5_wrong hsc K1.1 hq_q0 hh) (fun y2 K2 => (?_ : G m _ (58, [(0, .inl (.ref q0))], [.inl (.int y2.1)], y2.2, 0, 0)))
      exact k_retz HG rfl rfl (fun e1 e2 => hR _ _ e1 e2 K2)
    · show G m _ (19, [(0, .inl (.ref q0))], [], y1.2, 0, 0)
      refine k_steps HG 2 (zB_iff.mpr (?_ : G m _ (21, [(0, .inl (.ref q0))], [.inl (.ref q0), .inl (.ref q0)], y1.2, 0, 0)))
      refine k_getI HG rfl K1 hq_q0 rfl (Nat.le_of_ble_eq_true rfl) rfl (?_ : G m _ (24, [(0, .inl (.ref q0))], [.inl (.int (hv y1.2 q0 31)), .inl (.ref q0)], y1.2, 0, 0))
      refine k_cVI HG (E' := ze_X5_isWinner) (Or.inl ⟨rfl, rfl⟩) hsc rfl rfl rfl rfl rfl (fun hh => x_X5_isWinner hsc K1.1 hq_q0 hh) (fun y3 => (?_ : G m _ (27, [(0, .inl (.ref q0))], [.inl (.int y3)], y1.2, 0, 0)))
      refine k_steps HG 1 (kb_eq (x := y3) (y := (0 : Int32)) ?_ ?_)
      · show G m _ (54, [(0, .inl (.ref q0))], [], y1.2, 0, 0)
        refine k_steps HG 1 (zB_iff.mpr (?_ : G m _ (55, [(0, .inl (.ref q0))], [.inl (.ref q0)], y1.2, 0, 0)))
        refine k_cVIH HG (E' := ze_X5_wrong) (Or.inl ⟨rfl, rfl⟩) hsc rfl rfl rfl rfl rfl K1 rfl (fun hh => x_X5_wrong hsc K1.1 hq_q0 hh) (fun y4 K4 => (?_ : G m _ (58, [(0, .inl (.ref q0))], [.inl (.int y4.1)], y4.2, 0, 0)))
        exact k_retz HG rfl rfl (fun e1 e2 => hR _ _ e1 e2 K4)
      · show G m _ (30, [(0, .inl (.ref q0))], [], y1.2, 0, 0)
        refine k_steps HG 1 (zB_iff.mpr (?_ : G m _ (31, [(0, .inl (.ref q0))], [.inl (.ref q0)], y1.2, 0, 0)))
        refine k_getR HG rfl K1 hq_q0 rfl (Nat.le_of_ble_eq_true rfl) rfl rfl (fun t5 => (?_ : G m _ (34, [(0, .inl (.ref q0))], [.inl (.ref (hr y1.2 q0 16))], y1.2, 0, 0)))
        refine k_steps HG 1 (zB_iff.mpr (?_ : G m _ (35, [(0, .inl (.ref q0))], [.inl (.ref q0), .inl (.ref (hr y1.2 q0 16))], y1.2, 0, 0)))
        refine k_getI HG rfl K1 hq_q0 rfl (Nat.le_of_ble_eq_true rfl) rfl (?_ : G m _ (38, [(0, .inl (.ref q0))], [.inl (.int (hv y1.2 q0 31)), .inl (.ref (hr y1.2 q0 16))], y1.2, 0, 0))
        refine k_iald HG rfl K1 t5 rfl (fun _ => rfl) (?_ : G m _ (39, [(0, .inl (.ref q0))], [.inl (.int (hv y1.2 (hr y1.2 q0 16) (hv y1.2 q0 31).toNatClampNeg))], y1.2, 0, 0))
        refine k_steps HG 1 (kb_ne (x := (hv y1.2 (hr y1.2 q0 16) (hv y1.2 q0 31).toNatClampNeg)) (y := (0 : Int32)) ?_ ?_)
        · show G m _ (54, [(0, .inl (.ref q0))], [], y1.2, 0, 0)
          refine k_steps HG 1 (zB_iff.mpr (?_ : G m _ (55, [(0, .inl (.ref q0))], [.inl (.ref q0)], y1.2, 0, 0)))
          refine k_cVIH HG (E' := ze_X5_wrong) (Or.inl ⟨rfl, rfl⟩) hsc rfl rfl rfl rfl rfl K1 rfl (fun hh => x_X5_wrong hsc K1.1 hq_q0 hh) (fun y6 K6 => (?_ : G m _ (58, [(0, .inl (.ref q0))], [.inl (.int y6.1)], y6.2, 0, 0)))
          exact k_retz HG rfl rfl (fun e1 e2 => hR _ _ e1 e2 K6)
        · show G m _ (42, [(0, .inl (.ref q0))], [], y1.2, 0, 0)
          refine k_steps HG 2 (zB_iff.mpr (?_ : G m _ (44, [(0, .inl (.ref q0))], [.inl (.ref q0), .inl (.ref q0)], y1.2, 0, 0)))
          refine k_getI HG rfl K1 hq_q0 rfl (Nat.le_of_ble_eq_true rfl) rfl (?_ : G m _ (47, [(0, .inl (.ref q0))], [.inl (.int (hv y1.2 q0 31)), .inl (.ref q0)], y1.2, 0, 0))
          refine k_cVI HG (E' := ze_X5_thingOn) (Or.inl ⟨rfl, rfl⟩) hsc rfl rfl rfl rfl rfl (fun hh => x_X5_thingOn hsc K1.1 hq_q0 hh) (fun y7 => (?_ : G m _ (50, [(0, .inl (.ref q0))], [.inl (.int y7)], y1.2, 0, 0)))
          refine k_steps HG 2 (kb_eq (x := y7) (y := (-1 : Int32)) ?_ ?_)
          · show G m _ (59, [(0, .inl (.ref q0))], [], y1.2, 0, 0)
            refine k_steps HG 4 (zB_iff.mpr (?_ : G m _ (63, [(0, .inl (.ref q0))], [.inl (.ref q0), .inl (.int (1 : Int32)), .inl (.int (1 : Int32)), .inl (.ref q0)], y1.2, 0, 0)))
            refine k_getI HG rfl K1 hq_q0 rfl (Nat.le_of_ble_eq_true rfl) rfl (?_ : G m _ (66, [(0, .inl (.ref q0))], [.inl (.int (hv y1.2 q0 9)), .inl (.int (1 : Int32)), .inl (.int (1 : Int32)), .inl (.ref q0)], y1.2, 0, 0))
            refine k_cVIH HG (E' := ze_X5_number) (Or.inl ⟨rfl, rfl⟩) hsc rfl rfl rfl rfl rfl K1 rfl (fun hh => x_X5_number hsc K1.1 hq_q0 hh) (fun y8 K8 => (?_ : G m _ (69, [(0, .inl (.ref q0))], [.inl (.int y8.1)], y8.2, 0, 0)))
            refine k_steps HG 1 (kb_eq (x := y8.1) (y := (0 : Int32)) ?_ ?_)
            · show G m _ (83, [(0, .inl (.ref q0))], [], y8.2, 0, 0)
              refine k_steps HG 1 (zB_iff.mpr (?_ : G m _ (84, [(0, .inl (.ref q0))], [.inl (.int (0 : Int32))], y8.2, 0, 0)))
              exact k_retz HG rfl rfl (fun e1 e2 => hR _ _ e1 e2 K8)
            · show G m _ (72, [(0, .inl (.ref q0))], [], y8.2, 0, 0)
              refine k_steps HG 4 (zB_iff.mpr (?_ : G m _ (77, [(0, .inl (.ref q0))], [.inl (.int (9 : Int32)), .inl (.int (0 : Int32)), .inl (.int (2 : Int32)), .inl (.ref q0)], y8.2, 0, 0)))
              refine k_cVIH HG (E' := ze_X5_number) (Or.inl ⟨rfl, rfl⟩) hsc rfl rfl rfl rfl rfl K8 rfl (fun hh => x_X5_number hsc K8.1 hq_q0 hh) (fun y9 K9 => (?_ : G m _ (80, [(0, .inl (.ref q0))], [.inl (.int y9.1)], y9.2, 0, 0)))
              refine k_steps HG 1 (kb_ne (x := y9.1) (y := (0 : Int32)) ?_ ?_)
              · show G m _ (85, [(0, .inl (.ref q0))], [], y9.2, 0, 0)
                refine k_steps HG 2 (zB_iff.mpr (?_ : G m _ (87, [(0, .inl (.ref q0))], [.inl (.ref q0), .inl (.ref q0)], y9.2, 0, 0)))
                refine k_getR HG rfl K9 hq_q0 rfl (Nat.le_of_ble_eq_true rfl) rfl rfl (fun t10 => (?_ : G m _ (90, [(0, .inl (.ref q0))], [.inl (.ref (hr y9.2 q0 33)), .inl (.ref q0)], y9.2, 0, 0)))
                refine k_steps HG 1 (zB_iff.mpr (?_ : G m _ (91, [(0, .inl (.ref q0))], [.inl (.int (0 : Int32)), .inl (.ref (hr y9.2 q0 33)), .inl (.ref q0)], y9.2, 0, 0)))
                refine k_iald HG rfl K9 t10 rfl (fun _ => rfl) (?_ : G m _ (92, [(0, .inl (.ref q0))], [.inl (.int (hv y9.2 (hr y9.2 q0 33) (0 : Int32).toNatClampNeg)), .inl (.ref q0)], y9.2, 0, 0))
                refine k_steps HG 1 (zB_iff.mpr (?_ : G m _ (93, [(0, .inl (.ref q0))], [.inl (.ref q0), .inl (.int (hv y9.2 (hr y9.2 q0 33) (0 : Int32).toNatClampNeg)), .inl (.ref q0)], y9.2, 0, 0)))
                refine k_getR HG rfl K9 hq_q0 rfl (Nat.le_of_ble_eq_true rfl) rfl rfl (fun t11 => (?_ : G m _ (96, [(0, .inl (.ref q0))], [.inl (.ref (hr y9.2 q0 33)), .inl (.int (hv y9.2 (hr y9.2 q0 33) (0 : Int32).toNatClampNeg)), .inl (.ref q0)], y9.2, 0, 0)))
                refine k_steps HG 1 (zB_iff.mpr (?_ : G m _ (97, [(0, .inl (.ref q0))], [.inl (.int (1 : Int32)), .inl (.ref (hr y9.2 q0 33)), .inl (.int (hv y9.2 (hr y9.2 q0 33) (0 : Int32).toNatClampNeg)), .inl (.ref q0)], y9.2, 0, 0)))
                refine k_iald HG rfl K9 t11 rfl (fun _ => rfl) (?_ : G m _ (98, [(0, .inl (.ref q0))], [.inl (.int (hv y9.2 (hr y9.2 q0 33) (1 : Int32).toNatClampNeg)), .inl (.int (hv y9.2 (hr y9.2 q0 33) (0 : Int32).toNatClampNeg)), .inl (.ref q0)], y9.2, 0, 0))
                refine k_steps HG 1 (zB_iff.mpr (?_ : G m _ (99, [(0, .inl (.ref q0))], [.inl (.ref q0), .inl (.int (hv y9.2 (hr y9.2 q0 33) (1 : Int32).toNatClampNeg)), .inl (.int (hv y9.2 (hr y9.2 q0 33) (0 : Int32).toNatClampNeg)), .inl (.ref q0)], y9.2, 0, 0)))
                refine k_getR HG rfl K9 hq_q0 rfl (Nat.le_of_ble_eq_true rfl) rfl rfl (fun t12 => (?_ : G m _ (102, [(0, .inl (.ref q0))], [.inl (.ref (hr y9.2 q0 33)), .inl (.int (hv y9.2 (hr y9.2 q0 33) (1 : Int32).toNatClampNeg)), .inl (.int (hv y9.2 (hr y9.2 q0 33) (0 : Int32).toNatClampNeg)), .inl (.ref q0)], y9.2, 0, 0)))
                refine k_steps HG 1 (zB_iff.mpr (?_ : G m _ (103, [(0, .inl (.ref q0))], [.inl (.int (2 : Int32)), .inl (.ref (hr y9.2 q0 33)), .inl (.int (hv y9.2 (hr y9.2 q0 33) (1 : Int32).toNatClampNeg)), .inl (.int (hv y9.2 (hr y9.2 q0 33) (0 : Int32).toNatClampNeg)), .inl (.ref q0)], y9.2, 0, 0)))
                refine k_iald HG rfl K9 t12 rfl (fun _ => rfl) (?_ : G m _ (104, [(0, .inl (.ref q0))], [.inl (.int (hv y9.2 (hr y9.2 q0 33) (2 : Int32).toNatClampNeg)), .inl (.int (hv y9.2 (hr y9.2 q0 33) (1 : Int32).toNatClampNeg)), .inl (.int (hv y9.2 (hr y9.2 q0 33) (0 : Int32).toNatClampNeg)), .inl (.ref q0)], y9.2, 0, 0))
                refine k_cVH HG (E' := ze_X5_addThing) (Or.inl ⟨rfl, rfl⟩) hsc rfl rfl rfl rfl rfl K9 rfl (fun hh => x_X5_addThing hsc K9.1 hq_q0 hh) (fun h13 K13 => (?_ : G m _ (107, [(0, .inl (.ref q0))], [], h13, 0, 0)))
                refine k_steps HG 1 (zB_iff.mpr (?_ : G m _ (108, [(0, .inl (.ref q0))], [.inl (.int (1 : Int32))], h13, 0, 0)))
                exact k_retz HG rfl rfl (fun e1 e2 => hR _ _ e1 e2 K13)
              · show G m _ (83, [(0, .inl (.ref q0))], [], y9.2, 0, 0)
                refine k_steps HG 1 (zB_iff.mpr (?_ : G m _ (84, [(0, .inl (.ref q0))], [.inl (.int (0 : Int32))], y9.2, 0, 0)))
                exact k_retz HG rfl rfl (fun e1 e2 => hR _ _ e1 e2 K9)
          · show G m _ (54, [(0, .inl (.ref q0))], [], y1.2, 0, 0)
            refine k_steps HG 1 (zB_iff.mpr (?_ : G m _ (55, [(0, .inl (.ref q0))], [.inl (.ref q0)], y1.2, 0, 0)))
            refine k_cVIH HG (E' := ze_X5_wrong) (Or.inl ⟨rfl, rfl⟩) hsc rfl rfl rfl rfl rfl K1 rfl (fun hh => x_X5_wrong hsc K1.1 hq_q0 hh) (fun y14 K14 => (?_ : G m _ (58, [(0, .inl (.ref q0))], [.inl (.int y14.1)], y14.2, 0, 0)))
            exact k_retz HG rfl rfl (fun e1 e2 => hR _ _ e1 e2 K14)
  · show G m _ (9, [(0, .inl (.ref q0))], [], y1.2, 0, 0)
    refine k_steps HG 1 (zB_iff.mpr (?_ : G m _ (10, [(0, .inl (.ref q0))], [.inl (.int (0 : Int32))], y1.2, 0, 0)))
    exact k_retz HG rfl rfl (fun e1 e2 => hR _ _ e1 e2 K1)
def W_X5_worth : List (Nat × Nat) := [(30, 1000)]
noncomputable def F_X5_worth (h : zH) (q0 : Nat) (a1 : Int32) : Int32 × zH := (letf (F_X5_isBuyer h q0 a1) (fun y1 => (if y1 = (0 : Int32) then (letf (F_X5_refuse h q0 (-2 : Int32)) (fun y2 => (y2.1, y2.2))) else (letf (F_X5_worthTo h q0 a1) (fun y3 => (y3, h))))))
theorem x_X5_worth {scr : List zV} {T : List Nat} {h : zH} {q0 : Nat} {a1 : Int32} (hsc : cT scr) (K : hOK kty T h) (hq_q0 : T[q0]? = some 5) (hh : cH h) : xIH scr W_X5_worth T T 247 [.inl (.ref q0), .inl (.int a1)] h (F_X5_worth h q0 a1) := by
  refine xIH_intro (E := ze_X5_worth) hsc rfl (cTb_ok rfl) hh (fun d r h' G HG Pf hR m => ?_)
  have K := kOK_refl (W := W_X5_worth) K
  unfold F_X5_worth
  show G m _ (0, [(0, .inl (.ref q0)), (1, .inl (.int a1))], [], h, 0, 0)
  refine k_steps HG 2 (zB_iff.mpr (?_ : G m _ (2, [(0, .inl (.ref q0)), (1, .inl (.int a1))], [.inl (.int a1), .inl (.ref q0)], h, 0, 0)))
  refine k_cVI HG (E' := ze_X5_isBuyer) (Or.inl ⟨rfl, rfl⟩) hsc rfl rfl rfl rfl rfl (fun hh => x_X5_isBuyer hsc K.1 hq_q0 hh) (fun y1 => (?_ : G m _ (5, [(0, .inl (.ref q0)), (1, .inl (.int a1))], [.inl (.int y1)], h, 0, 0)))
  refine k_steps HG 1 (kb_eq (x := y1) (y := (0 : Int32)) ?_ ?_)
  · show G m _ (16, [(0, .inl (.ref q0)), (1, .inl (.int a1))], [], h, 0, 0)
    refine k_steps HG 2 (zB_iff.mpr (?_ : G m _ (19, [(0, .inl (.ref q0)), (1, .inl (.int a1))], [.inl (.int (-2 : Int32)), .inl (.ref q0)], h, 0, 0)))
    refine k_cVIH HG (E' := ze_X5_refuse) (Or.inl ⟨rfl, rfl⟩) hsc rfl rfl rfl rfl rfl K rfl (fun hh => x_X5_refuse hsc K.1 hq_q0 hh) (fun y2 K2 => (?_ : G m _ (22, [(0, .inl (.ref q0)), (1, .inl (.int a1))], [.inl (.int y2.1)], y2.2, 0, 0)))
    exact k_reti HG rfl rfl (fun e1 e2 => hR _ _ e1 e2 K2)
  · show G m _ (8, [(0, .inl (.ref q0)), (1, .inl (.int a1))], [], h, 0, 0)
    refine k_steps HG 2 (zB_iff.mpr (?_ : G m _ (10, [(0, .inl (.ref q0)), (1, .inl (.int a1))], [.inl (.int a1), .inl (.ref q0)], h, 0, 0)))
    refine k_cVI HG (E' := ze_X5_worthTo) (Or.inl ⟨rfl, rfl⟩) hsc rfl rfl rfl rfl rfl (fun hh => x_X5_worthTo hsc K.1 hq_q0 hh) (fun y3 => (?_ : G m _ (13, [(0, .inl (.ref q0)), (1, .inl (.int a1))], [.inl (.int y3)], h, 0, 0)))
    refine k_steps HG 1 (zB_iff.mpr (?_ : G m _ (22, [(0, .inl (.ref q0)), (1, .inl (.int a1))], [.inl (.int y3)], h, 0, 0)))
    exact k_reti HG rfl rfl (fun e1 e2 => hR _ _ e1 e2 K)
noncomputable def B_X1_takingsAt_16 (h : zH) (c0 : Nat) (c1 : Int32) (c2 : Int32) (s : (Int32 × Int32)) : (Int32 × Int32) ⊕ (Int32) := (if s.2 < (hv h c0 14) then (letf (F_X1_worthOfGo h c0 s.2) (fun y1001 => (if y1001 < ((1000 : Int32) * c1) then (Sum.inl (s.1, (s.2 + (1 : Int32)))) else (Sum.inl ((s.1 + (jmin ((hv h (hr h c0 15) s.2.toNatClampNeg) / c1) (c2 - s.1))), (s.2 + (1 : Int32))))))) else (Sum.inr (s.1 * c1)))
noncomputable def F_X1_takingsAt (h : zH) (q0 : Nat) (a1 : Int32) : Int32 := (if (0 : Int32) < a1 then (letf (F_X1_countIn h q0) (fun y1 => (fx (B_X1_takingsAt_16 h q0 a1 y1) 0 ((0 : Int32), (0 : Int32))))) else (0 : Int32))
theorem x_X1_takingsAt {scr : List zV} {T : List Nat} {h : zH} {q0 : Nat} {a1 : Int32} (hsc : cT scr) (K : hOK kty T h) (hq_q0 : T[q0]? = some 1) (hh : cH h) : xI scr 55 [.inl (.ref q0), .inl (.int a1)] h (F_X1_takingsAt h q0 a1) := by
  refine xI_intro (E := ze_X1_takingsAt) hsc rfl (cTb_ok rfl) hh (fun d r h' G HG Pf hR m => ?_)
  have K := kOK_refl (W := []) K
  unfold F_X1_takingsAt
  show G m _ (0, [(0, .inl (.ref q0)), (1, .inl (.int a1))], [], h, 0, 0)
  refine k_steps HG 2 (kb_gt (x := a1) (y := (0 : Int32)) ?_ ?_)
  · show G m _ (6, [(0, .inl (.ref q0)), (1, .inl (.int a1))], [], h, 0, 0)
    refine k_steps HG 1 (zB_iff.mpr (?_ : G m _ (7, [(0, .inl (.ref q0)), (1, .inl (.int a1))], [.inl (.ref q0)], h, 0, 0)))
    refine k_cVI HG (E' := ze_X1_countIn) (Or.inl ⟨rfl, rfl⟩) hsc rfl rfl rfl rfl rfl (fun hh => x_X1_countIn hsc K.1 hq_q0 hh) (fun y1 => (?_ : G m _ (10, [(0, .inl (.ref q0)), (1, .inl (.int a1))], [.inl (.int y1)], h, 0, 0)))
    refine k_steps HG 5 (zB_iff.mpr (?_ : G m _ (16, [(4, .inl (.int (0 : Int32))), (3, .inl (.int (0 : Int32))), (2, .inl (.int y1)), (0, .inl (.ref q0)), (1, .inl (.int a1))], [], h, 0, 0)))
    have lp2 : ∀ m2, m2 ≤ m → ∀ (v2_3 : Int32) (v2_4 : Int32), G m2 (Pf (fx (B_X1_takingsAt_16 h q0 a1 y1) 0 (v2_3, v2_4))) (16, [(0, .inl (.ref q0)), (1, .inl (.int a1)), (2, .inl (.int y1)), (3, .inl (.int v2_3)), (4, .inl (.int v2_4))], [], h, 0, 0) := by
      intro m2
      induction m2 with
      | zero =>
        intros
        exact k_zero HG
      | succ m2 ih2 =>
        intro le2 v2_3 v2_4
        have le2 := Nat.le_of_succ_le le2
        have ih2 := ih2 le2
        refine k_fx ?_
        rw [B_X1_takingsAt_16]
        refine k_first HG 1 (zB_iff.mpr (?_ : G m2 _ (19, [(0, .inl (.ref q0)), (1, .inl (.int a1)), (2, .inl (.int y1)), (3, .inl (.int v2_3)), (4, .inl (.int v2_4))], [.inl (.ref q0), .inl (.int v2_4)], h, 0, 0)))
        refine k_getI HG rfl K hq_q0 rfl (Nat.le_of_ble_eq_true rfl) rfl (?_ : G m2 _ (22, [(0, .inl (.ref q0)), (1, .inl (.int a1)), (2, .inl (.int y1)), (3, .inl (.int v2_3)), (4, .inl (.int v2_4))], [.inl (.int (hv h q0 14)), .inl (.int v2_4)], h, 0, 0))
        refine k_steps HG 1 (kb_ge (x := v2_4) (y := (hv h q0 14)) ?_ ?_)
        · show G m2 _ (63, [(0, .inl (.ref q0)), (1, .inl (.int a1)), (2, .inl (.int y1)), (3, .inl (.int v2_3)), (4, .inl (.int v2_4))], [], h, 0, 0)
          refine k_steps HG 3 (zB_iff.mpr (?_ : G m2 _ (66, [(0, .inl (.ref q0)), (1, .inl (.int a1)), (2, .inl (.int y1)), (3, .inl (.int v2_3)), (4, .inl (.int v2_4))], [.inl (.int (v2_3 * a1))], h, 0, 0)))
          exact k_reti HG rfl rfl (fun e1 e2 => hR _ e1 e2)
        · show G m2 _ (25, [(0, .inl (.ref q0)), (1, .inl (.int a1)), (2, .inl (.int y1)), (3, .inl (.int v2_3)), (4, .inl (.int v2_4))], [], h, 0, 0)
          refine k_steps HG 2 (zB_iff.mpr (?_ : G m2 _ (28, [(0, .inl (.ref q0)), (1, .inl (.int a1)), (2, .inl (.int y1)), (3, .inl (.int v2_3)), (4, .inl (.int v2_4))], [.inl (.int v2_4), .inl (.ref q0)], h, 0, 0)))
          refine k_cVI HG (E' := ze_X1_worthOfGo) (Or.inl ⟨rfl, rfl⟩) hsc rfl rfl rfl rfl rfl (fun hh => x_X1_worthOfGo hsc K.1 hq_q0 hh) (fun y3 => (?_ : G m2 _ (31, [(0, .inl (.ref q0)), (1, .inl (.int a1)), (2, .inl (.int y1)), (3, .inl (.int v2_3)), (4, .inl (.int v2_4))], [.inl (.int y3)], h, 0, 0)))
          refine k_steps HG 4 (kb_lt (x := y3) (y := ((1000 : Int32) * a1)) ?_ ?_)
          · show G m2 _ (57, [(0, .inl (.ref q0)), (1, .inl (.int a1)), (2, .inl (.int y1)), (3, .inl (.int v2_3)), (4, .inl (.int v2_4))], [], h, 0, 0)
            refine k_steps HG 2 (zB_iff.mpr (?_ : G m2 _ (16, [(4, .inl (.int (v2_4 + (1 : Int32)))), (0, .inl (.ref q0)), (1, .inl (.int a1)), (2, .inl (.int y1)), (3, .inl (.int v2_3))], [], h, 0, 0)))
            refine k_ext HG (L' := [(0, .inl (.ref q0)), (1, .inl (.int a1)), (2, .inl (.int y1)), (3, .inl (.int v2_3)), (4, .inl (.int (v2_4 + (1 : Int32))))]) rfl rfl ⟨rfl, rfl, rfl, rfl, rfl, trivial⟩ ?_
            exact ih2 _ _
          · show G m2 _ (39, [(0, .inl (.ref q0)), (1, .inl (.int a1)), (2, .inl (.int y1)), (3, .inl (.int v2_3)), (4, .inl (.int v2_4))], [], h, 0, 0)
            refine k_steps HG 2 (zB_iff.mpr (?_ : G m2 _ (41, [(0, .inl (.ref q0)), (1, .inl (.int a1)), (2, .inl (.int y1)), (3, .inl (.int v2_3)), (4, .inl (.int v2_4))], [.inl (.ref q0), .inl (.int v2_3)], h, 0, 0)))
            refine k_getR HG rfl K hq_q0 rfl (Nat.le_of_ble_eq_true rfl) rfl rfl (fun t4 => (?_ : G m2 _ (44, [(0, .inl (.ref q0)), (1, .inl (.int a1)), (2, .inl (.int y1)), (3, .inl (.int v2_3)), (4, .inl (.int v2_4))], [.inl (.ref (hr h q0 15)), .inl (.int v2_3)], h, 0, 0)))
            refine k_steps HG 1 (zB_iff.mpr (?_ : G m2 _ (46, [(0, .inl (.ref q0)), (1, .inl (.int a1)), (2, .inl (.int y1)), (3, .inl (.int v2_3)), (4, .inl (.int v2_4))], [.inl (.int v2_4), .inl (.ref (hr h q0 15)), .inl (.int v2_3)], h, 0, 0)))
            refine k_iald HG rfl K t4 rfl (fun _ => rfl) (?_ : G m2 _ (47, [(0, .inl (.ref q0)), (1, .inl (.int a1)), (2, .inl (.int y1)), (3, .inl (.int v2_3)), (4, .inl (.int v2_4))], [.inl (.int (hv h (hr h q0 15) v2_4.toNatClampNeg)), .inl (.int v2_3)], h, 0, 0))
            refine k_steps HG 1 (zB_iff.mpr (?_ : G m2 _ (48, [(0, .inl (.ref q0)), (1, .inl (.int a1)), (2, .inl (.int y1)), (3, .inl (.int v2_3)), (4, .inl (.int v2_4))], [.inl (.int a1), .inl (.int (hv h (hr h q0 15) v2_4.toNatClampNeg)), .inl (.int v2_3)], h, 0, 0)))
            refine k_div HG rfl (?_ : G m2 _ (49, [(0, .inl (.ref q0)), (1, .inl (.int a1)), (2, .inl (.int y1)), (3, .inl (.int v2_3)), (4, .inl (.int v2_4))], [.inl (.int ((hv h (hr h q0 15) v2_4.toNatClampNeg) / a1)), .inl (.int v2_3)], h, 0, 0))
            refine k_steps HG 8 (zB_iff.mpr (?_ : G m2 _ (16, [(4, .inl (.int (v2_4 + (1 : Int32)))), (3, .inl (.int (v2_3 + (jmin ((hv h (hr h q0 15) v2_4.toNatClampNeg) / a1) (y1 - v2_3))))), (0, .inl (.ref q0)), (1, .inl (.int a1)), (2, .inl (.int y1))], [], h, 0, 0)))
            refine k_ext HG (L' := [(0, .inl (.ref q0)), (1, .inl (.int a1)), (2, .inl (.int y1)), (3, .inl (.int (v2_3 + (jmin ((hv h (hr h q0 15) v2_4.toNatClampNeg) / a1) (y1 - v2_3))))), (4, .inl (.int (v2_4 + (1 : Int32))))]) rfl rfl ⟨rfl, rfl, rfl, rfl, rfl, trivial⟩ ?_
            exact ih2 _ _
    refine k_ext HG (L' := [(0, .inl (.ref q0)), (1, .inl (.int a1)), (2, .inl (.int y1)), (3, .inl (.int (0 : Int32))), (4, .inl (.int (0 : Int32)))]) rfl rfl ⟨rfl, rfl, rfl, rfl, rfl, trivial⟩ ?_
    exact lp2 m (Nat.le_refl _) _ _
  · show G m _ (4, [(0, .inl (.ref q0)), (1, .inl (.int a1))], [], h, 0, 0)
    refine k_steps HG 1 (zB_iff.mpr (?_ : G m _ (5, [(0, .inl (.ref q0)), (1, .inl (.int a1))], [.inl (.int (0 : Int32))], h, 0, 0)))
    exact k_reti HG rfl rfl (fun e1 e2 => hR _ e1 e2)
