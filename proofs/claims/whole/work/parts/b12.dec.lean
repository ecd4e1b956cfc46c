def W_X5_sure : List (Nat × Nat) := [(30, 1000)]
noncomputable def B_X5_sure_33 (h : zH) (c0 : Nat) (c1 : Int32) (c2 : Int32) (s : (Int32)) : (Int32) ⊕ (Int32 × zH) := (letf (F_X5_suspected c1 s) (fun y1001 => (if y1001 < c2 then (Sum.inl (s + (1 : Int32))) else (Sum.inr (s, h)))))
noncomputable def F_X5_sure (h : zH) (q0 : Nat) (a1 : Int32) (a2 : Int32) : Int32 × zH := (letf (F_X5_in (Int32.toInt64 a1) (1 : Int64) (60 : Int64)) (fun y1 => (if y1 = (0 : Int32) then (letf (F_X5_refuse h q0 (-2 : Int32)) (fun y2 => (y2.1, y2.2))) else (letf (F_X5_in (Int32.toInt64 a2) (0 : Int64) (1000000 : Int64)) (fun y3 => (if y3 = (0 : Int32) then (letf (F_X5_refuse h q0 (-2 : Int32)) (fun y6 => (y6.1, y6.2))) else (fx (B_X5_sure_33 h q0 a1 a2) (0, []) (0 : Int32))))))))
theorem x_X5_sure {scr : List zV} {T : List Nat} {h : zH} {q0 : Nat} {a1 : Int32} {a2 : Int32} (hsc : cT scr) (K : hOK kty T h) (hq_q0 : T[q0]? = some 5) (hh : cH h) : xIH scr W_X5_sure T T 229 [.inl (.ref q0), .inl (.int a1), .inl (.int a2)] h (F_X5_sure h q0 a1 a2) := by
  refine xIH_intro (E := ze_X5_sure) hsc rfl (cTb_ok rfl) hh (fun d r h' G HG Pf hR m => ?_)
  have K := kOK_refl (W := W_X5_sure) K
  unfold F_X5_sure
  show G m _ (0, [(0, .inl (.ref q0)), (1, .inl (.int a1)), (2, .inl (.int a2))], [], h, 0, 0)
  refine k_steps HG 4 (zB_iff.mpr (?_ : G m _ (6, [(0, .inl (.ref q0)), (1, .inl (.int a1)), (2, .inl (.int a2))], [.inl (.long (60 : Int64)), .inl (.long (1 : Int64)), .inl (.long (Int32.toInt64 a1))], h, 0, 0)))
  refine k_cSI HG (E' := ze_X5_in) (Or.inl rfl) hsc rfl rfl rfl rfl (fun hh => x_X5_in hsc hh) (fun y1 => (?_ : G m _ (9, [(0, .inl (.ref q0)), (1, .inl (.int a1)), (2, .inl (.int a2))], [.inl (.int y1)], h, 0, 0)))
  refine k_steps HG 1 (kb_eq (x := y1) (y := (0 : Int32)) ?_ ?_)
  · show G m _ (24, [(0, .inl (.ref q0)), (1, .inl (.int a1)), (2, .inl (.int a2))], [], h, 0, 0)
    refine k_steps HG 2 (zB_iff.mpr (?_ : G m _ (27, [(0, .inl (.ref q0)), (1, .inl (.int a1)), (2, .inl (.int a2))], [.inl (.int (-2 : Int32)), .inl (.ref q0)], h, 0, 0)))
    refine k_cVIH HG (E' := ze_X5_refuse) (Or.inl ⟨rfl, rfl⟩) hsc rfl rfl rfl rfl rfl K rfl (fun hh => x_X5_refuse hsc K.1 hq_q0 hh) (fun y2 K2 => (?_ : G m _ (30, [(0, .inl (.ref q0)), (1, .inl (.int a1)), (2, .inl (.int a2))], [.inl (.int y2.1)], y2.2, 0, 0)))
    exact k_reti HG rfl rfl (fun e1 e2 => hR _ _ e1 e2 K2)
  · show G m _ (12, [(0, .inl (.ref q0)), (1, .inl (.int a1)), (2, .inl (.int a2))], [], h, 0, 0)
    refine k_steps HG 4 (zB_iff.mpr (?_ : G m _ (18, [(0, .inl (.ref q0)), (1, .inl (.int a1)), (2, .inl (.int a2))], [.inl (.long (1000000 : Int64)), .inl (.long (0 : Int64)), .inl (.long (Int32.toInt64 a2))], h, 0, 0)))
    refine k_cSI HG (E' := ze_X5_in) (Or.inl rfl) hsc rfl rfl rfl rfl (fun hh => x_X5_in hsc hh) (fun y3 => (?_ : G m _ (21, [(0, .inl (.ref q0)), (1, .inl (.int a1)), (2, .inl (.int a2))], [.inl (.int y3)], h, 0, 0)))
    refine k_steps HG 1 (kb_ne (x := y3) (y := (0 : Int32)) ?_ ?_)
    · show G m _ (31, [(0, .inl (.ref q0)), (1, .inl (.int a1)), (2, .inl (.int a2))], [], h, 0, 0)
      refine k_steps HG 2 (zB_iff.mpr (?_ : G m _ (33, [(3, .inl (.int (0 : Int32))), (0, .inl (.ref q0)), (1, .inl (.int a1)), (2, .inl (.int a2))], [], h, 0, 0)))
      have lp4 : ∀ m4, m4 ≤ m → ∀ (v4_3 : Int32), G m4 (Pf (fx (B_X5_sure_33 h q0 a1 a2) (0, []) v4_3)) (33, [(0, .inl (.ref q0)), (1, .inl (.int a1)), (2, .inl (.int a2)), (3, .inl (.int v4_3))], [], h, 0, 0) := by
        intro m4
        induction m4 with
        | zero =>
          intros
          exact k_zero HG
        | succ m4 ih4 =>
          intro le4 v4_3
          have le4 := Nat.le_of_succ_le le4
          have ih4 := ih4 le4
          refine k_fx ?_
          rw [B_X5_sure_33]
          refine k_first HG 1 (zB_iff.mpr (?_ : G m4 _ (35, [(0, .inl (.ref q0)), (1, .inl (.int a1)), (2, .inl (.int a2)), (3, .inl (.int v4_3))], [.inl (.int v4_3), .inl (.int a1)], h, 0, 0)))
          refine k_cSI HG (E' := ze_X5_suspected) (Or.inl rfl) hsc rfl rfl rfl rfl (fun hh => x_X5_suspected hsc hh) (fun y5 => (?_ : G m4 _ (38, [(0, .inl (.ref q0)), (1, .inl (.int a1)), (2, .inl (.int a2)), (3, .inl (.int v4_3))], [.inl (.int y5)], h, 0, 0)))
          refine k_steps HG 2 (kb_ge (x := y5) (y := a2) ?_ ?_)
          · show G m4 _ (48, [(0, .inl (.ref q0)), (1, .inl (.int a1)), (2, .inl (.int a2)), (3, .inl (.int v4_3))], [], h, 0, 0)
            refine k_steps HG 1 (zB_iff.mpr (?_ : G m4 _ (49, [(0, .inl (.ref q0)), (1, .inl (.int a1)), (2, .inl (.int a2)), (3, .inl (.int v4_3))], [.inl (.int v4_3)], h, 0, 0)))
            exact k_reti HG rfl rfl (fun e1 e2 => hR _ _ e1 e2 K)
          · show G m4 _ (42, [(0, .inl (.ref q0)), (1, .inl (.int a1)), (2, .inl (.int a2)), (3, .inl (.int v4_3))], [], h, 0, 0)
            refine k_steps HG 2 (zB_iff.mpr (?_ : G m4 _ (33, [(3, .inl (.int (v4_3 + (1 : Int32)))), (0, .inl (.ref q0)), (1, .inl (.int a1)), (2, .inl (.int a2))], [], h, 0, 0)))
            refine k_ext HG (L' := [(0, .inl (.ref q0)), (1, .inl (.int a1)), (2, .inl (.int a2)), (3, .inl (.int (v4_3 + (1 : Int32))))]) rfl rfl ⟨rfl, rfl, rfl, rfl, trivial⟩ ?_
            exact ih4 _
      refine k_ext HG (L' := [(0, .inl (.ref q0)), (1, .inl (.int a1)), (2, .inl (.int a2)), (3, .inl (.int (0 : Int32)))]) rfl rfl ⟨rfl, rfl, rfl, rfl, trivial⟩ ?_
      exact lp4 m (Nat.le_refl _) _
    · show G m _ (24, [(0, .inl (.ref q0)), (1, .inl (.int a1)), (2, .inl (.int a2))], [], h, 0, 0)
      refine k_steps HG 2 (zB_iff.mpr (?_ : G m _ (27, [(0, .inl (.ref q0)), (1, .inl (.int a1)), (2, .inl (.int a2))], [.inl (.int (-2 : Int32)), .inl (.ref q0)], h, 0, 0)))
      refine k_cVIH HG (E' := ze_X5_refuse) (Or.inl ⟨rfl, rfl⟩) hsc rfl rfl rfl rfl rfl K rfl (fun hh => x_X5_refuse hsc K.1 hq_q0 hh) (fun y6 K6 => (?_ : G m _ (30, [(0, .inl (.ref q0)), (1, .inl (.int a1)), (2, .inl (.int a2))], [.inl (.int y6.1)], y6.2, 0, 0)))
      exact k_reti HG rfl rfl (fun e1 e2 => hR _ _ e1 e2 K6)
def W_X5_suspect : List (Nat × Nat) := [(30, 1000)]
noncomputable def F_X5_suspect (h : zH) (q0 : Nat) (a1 : Int32) (a2 : Int32) : Int32 × zH := (letf (F_X5_in (Int32.toInt64 a1) (1 : Int64) (60 : Int64)) (fun y1 => (if y1 = (0 : Int32) then (letf (F_X5_refuse h q0 (-2 : Int32)) (fun y2 => (y2.1, y2.2))) else (letf (F_X5_in (Int32.toInt64 a2) (0 : Int64) (Int32.toInt64 a1)) (fun y3 => (if y3 = (0 : Int32) then (letf (F_X5_refuse h q0 (-2 : Int32)) (fun y4 => (y4.1, y4.2))) else (letf (F_X5_suspected a1 a2) (fun y5 => (y5, h)))))))))
theorem x_X5_suspect {scr : List zV} {T : List Nat} {h : zH} {q0 : Nat} {a1 : Int32} {a2 : Int32} (hsc : cT scr) (K : hOK kty T h) (hq_q0 : T[q0]? = some 5) (hh : cH h) : xIH scr W_X5_suspect T T 230 [.inl (.ref q0), .inl (.int a1), .inl (.int a2)] h (F_X5_suspect h q0 a1 a2) := by
  refine xIH_intro (E := ze_X5_suspect) hsc rfl (cTb_ok rfl) hh (fun d r h' G HG Pf hR m => ?_)
  have K := kOK_refl (W := W_X5_suspect) K
  unfold F_X5_suspect
  show G m _ (0, [(0, .inl (.ref q0)), (1, .inl (.int a1)), (2, .inl (.int a2))], [], h, 0, 0)
  refine k_steps HG 4 (zB_iff.mpr (?_ : G m _ (6, [(0, .inl (.ref q0)), (1, .inl (.int a1)), (2, .inl (.int a2))], [.inl (.long (60 : Int64)), .inl (.long (1 : Int64)), .inl (.long (Int32.toInt64 a1))], h, 0, 0)))
  refine k_cSI HG (E' := ze_X5_in) (Or.inl rfl) hsc rfl rfl rfl rfl (fun hh => x_X5_in hsc hh) (fun y1 => (?_ : G m _ (9, [(0, .inl (.ref q0)), (1, .inl (.int a1)), (2, .inl (.int a2))], [.inl (.int y1)], h, 0, 0)))
  refine k_steps HG 1 (kb_eq (x := y1) (y := (0 : Int32)) ?_ ?_)
  · show G m _ (31, [(0, .inl (.ref q0)), (1, .inl (.int a1)), (2, .inl (.int a2))], [], h, 0, 0)
    refine k_steps HG 2 (zB_iff.mpr (?_ : G m _ (34, [(0, .inl (.ref q0)), (1, .inl (.int a1)), (2, .inl (.int a2))], [.inl (.int (-2 : Int32)), .inl (.ref q0)], h, 0, 0)))
    refine k_cVIH HG (E' := ze_X5_refuse) (Or.inl ⟨rfl, rfl⟩) hsc rfl rfl rfl rfl rfl K rfl (fun hh => x_X5_refuse hsc K.1 hq_q0 hh) (fun y2 K2 => (?_ : G m _ (37, [(0, .inl (.ref q0)), (1, .inl (.int a1)), (2, .inl (.int a2))], [.inl (.int y2.1)], y2.2, 0, 0)))
    exact k_reti HG rfl rfl (fun e1 e2 => hR _ _ e1 e2 K2)
  · show G m _ (12, [(0, .inl (.ref q0)), (1, .inl (.int a1)), (2, .inl (.int a2))], [], h, 0, 0)
    refine k_steps HG 5 (zB_iff.mpr (?_ : G m _ (17, [(0, .inl (.ref q0)), (1, .inl (.int a1)), (2, .inl (.int a2))], [.inl (.long (Int32.toInt64 a1)), .inl (.long (0 : Int64)), .inl (.long (Int32.toInt64 a2))], h, 0, 0)))
    refine k_cSI HG (E' := ze_X5_in) (Or.inl rfl) hsc rfl rfl rfl rfl (fun hh => x_X5_in hsc hh) (fun y3 => (?_ : G m _ (20, [(0, .inl (.ref q0)), (1, .inl (.int a1)), (2, .inl (.int a2))], [.inl (.int y3)], h, 0, 0)))
    refine k_steps HG 1 (kb_eq (x := y3) (y := (0 : Int32)) ?_ ?_)
    · show G m _ (31, [(0, .inl (.ref q0)), (1, .inl (.int a1)), (2, .inl (.int a2))], [], h, 0, 0)
      refine k_steps HG 2 (zB_iff.mpr (?_ : G m _ (34, [(0, .inl (.ref q0)), (1, .inl (.int a1)), (2, .inl (.int a2))], [.inl (.int (-2 : Int32)), .inl (.ref q0)], h, 0, 0)))
      refine k_cVIH HG (E' := ze_X5_refuse) (Or.inl ⟨rfl, rfl⟩) hsc rfl rfl rfl rfl rfl K rfl (fun hh => x_X5_refuse hsc K.1 hq_q0 hh) (fun y4 K4 => (?_ : G m _ (37, [(0, .inl (.ref q0)), (1, .inl (.int a1)), (2, .inl (.int a2))], [.inl (.int y4.1)], y4.2, 0, 0)))
      exact k_reti HG rfl rfl (fun e1 e2 => hR _ _ e1 e2 K4)
    · show G m _ (23, [(0, .inl (.ref q0)), (1, .inl (.int a1)), (2, .inl (.int a2))], [], h, 0, 0)
      refine k_steps HG 2 (zB_iff.mpr (?_ : G m _ (25, [(0, .inl (.ref q0)), (1, .inl (.int a1)), (2, .inl (.int a2))], [.inl (.int a2), .inl (.int a1)], h, 0, 0)))
      refine k_cSI HG (E' := ze_X5_suspected) (Or.inl rfl) hsc rfl rfl rfl rfl (fun hh => x_X5_suspected hsc hh) (fun y5 => (?_ : G m _ (28, [(0, .inl (.ref q0)), (1, .inl (.int a1)), (2, .inl (.int a2))], [.inl (.int y5)], h, 0, 0)))
      refine k_steps HG 1 (zB_iff.mpr (?_ : G m _ (37, [(0, .inl (.ref q0)), (1, .inl (.int a1)), (2, .inl (.int a2))], [.inl (.int y5)], h, 0, 0)))
      exact k_reti HG rfl rfl (fun e1 e2 => hR _ _ e1 e2 K)
def W_X5_takeFrom_56 : List (Nat × Nat) := [(5, 9), (5, 10), (5, 11), (5, 12), (5, 13), (5, 14), (5, 15), (5, 17), (5, 23), (31, 1000), (32, 1000), (33, 1000), (34, 1000), (35, 1000), (36, 1000), (37, 1000), (39, 1000)]
noncomputable def B_X5_takeFrom_56_151 (c0 : Nat) (c1 : Nat) (s : (Int32 × zH)) : (Int32 × zH) ⊕ (zH) := (if s.1 < (4 : Int32) then (letf (F_X5_over_39 s.2 (hr s.2 (hr s.2 c1 25) s.1.toNatClampNeg) (hr s.2 (hr s.2 c0 25) s.1.toNatClampNeg)) (fun h1005 => (Sum.inl ((s.1 + (1 : Int32)), h1005)))) else (Sum.inr s.2))
noncomputable def F_X5_takeFrom_56 (h : zH) (q0 : Nat) (q1 : Nat) : zH := (letf (hput h q0 9 (.inl (.int (hv h q1 9)))) (fun h1 => (letf (hput h1 q0 10 (.inl (.int (hv h1 q1 10)))) (fun h2 => (letf (hput h2 q0 11 (.inl (.int (hv h2 q1 11)))) (fun h3 => (letf (hput h3 q0 12 (.inl (.int (hv h3 q1 12)))) (fun h4 => (letf (hput h4 q0 13 (.inl (.int (hv h4 q1 13)))) (fun h5 => (letf (hput h5 q0 14 (.inl (.int (hv h5 q1 14)))) (fun h6 => (letf (hput h6 q0 15 (.inl (.int (hv h6 q1 15)))) (fun h7 => (letf (F_X5_over_31 h7 (hr h7 q1 16) (hr h7 q0 16)) (fun h10 => (letf (hput h10 q0 17 (.inl (.int (hv h10 q1 17)))) (fun h11 => (letf (F_X5_over_32 h11 (hr h11 q1 18) (hr h11 q0 18)) (fun h14 => (letf (F_X5_over_33 h14 (hr h14 q1 19) (hr h14 q0 19)) (fun h17 => (letf (F_X5_over_34 h17 (hr h17 q1 20) (hr h17 q0 20)) (fun h20 => (letf (F_X5_over_35 h20 (hr h20 q1 21) (hr h20 q0 21)) (fun h23 => (letf (F_X5_over_36 h23 (hr h23 q1 22) (hr h23 q0 22)) (fun h26 => (letf (hput h26 q0 23 (.inl (.int (hv h26 q1 23)))) (fun h27 => (letf (F_X5_over_37 h27 (hr h27 q1 24) (hr h27 q0 24)) (fun h30 => (fx (B_X5_takeFrom_56_151 q0 q1) [] ((0 : Int32), h30))))))))))))))))))))))))))))))))))
theorem x_X5_takeFrom_56 {scr : List zV} {T : List Nat} {h : zH} {q0 : Nat} {q1 : Nat} (hsc : cT scr) (K : hOK kty T h) (hq_q0 : T[q0]? = some 5) (hq_q1 : T[q1]? = some 6) (hh : cH h) : xH scr W_X5_takeFrom_56 T T 232 [.inl (.ref q0), .inl (.ref q1)] h (F_X5_takeFrom_56 h q0 q1) := by
  refine xH_intro (E := ze_X5_takeFrom) hsc rfl (cTb_ok rfl) hh (fun d r h' G HG Pf hR m => ?_)
  have K := kOK_refl (W := W_X5_takeFrom_56) K
  unfold F_X5_takeFrom_56
  show G m _ (0, [(0, .inl (.ref q0)), (1, .inl (.ref q1))], [], h, 0, 0)
  refine k_steps HG 2 (zB_iff.mpr (?_ : G m _ (2, [(0, .inl (.ref q0)), (1, .inl (.ref q1))], [.inl (.ref q1), .inl (.ref q0)], h, 0, 0)))
  refine k_getI HG rfl K hq_q1 rfl (Nat.le_of_ble_eq_true rfl) rfl (?_ : G m _ (5, [(0, .inl (.ref q0)), (1, .inl (.ref q1))], [.inl (.int (hv h q1 9)), .inl (.ref q0)], h, 0, 0))
  refine k_putI HG rfl K hq_q0 rfl rfl rfl (fun h1 K1 => (?_ : G m _ (8, [(0, .inl (.ref q0)), (1, .inl (.ref q1))], [], h1, 0, 0)))
  refine k_steps HG 2 (zB_iff.mpr (?_ : G m _ (10, [(0, .inl (.ref q0)), (1, .inl (.ref q1))], [.inl (.ref q1), .inl (.ref q0)], h1, 0, 0)))
  refine k_getI HG rfl K1 hq_q1 rfl (Nat.le_of_ble_eq_true rfl) rfl (?_ : G m _ (13, [(0, .inl (.ref q0)), (1, .inl (.ref q1))], [.inl (.int (hv h1 q1 10)), .inl (.ref q0)], h1, 0, 0))
  refine k_putI HG rfl K1 hq_q0 rfl rfl rfl (fun h2 K2 => (?_ : G m _ (16, [(0, .inl (.ref q0)), (1, .inl (.ref q1))], [], h2, 0, 0)))
  refine k_steps HG 2 (zB_iff.mpr (?_ : G m _ (18, [(0, .inl (.ref q0)), (1, .inl (.ref q1))], [.inl (.ref q1), .inl (.ref q0)], h2, 0, 0)))
  refine k_getI HG rfl K2 hq_q1 rfl (Nat.le_of_ble_eq_true rfl) rfl (?_ : G m _ (21, [(0, .inl (.ref q0)), (1, .inl (.ref q1))], [.inl (.int (hv h2 q1 11)), .inl (.ref q0)], h2, 0, 0))
  refine k_putI HG rfl K2 hq_q0 rfl rfl rfl (fun h3 K3 => (?_ : G m _ (24, [(0, .inl (.ref q0)), (1, .inl (.ref q1))], [], h3, 0, 0)))
  refine k_steps HG 2 (zB_iff.mpr (?_ : G m _ (26, [(0, .inl (.ref q0)), (1, .inl (.ref q1))], [.inl (.ref q1), .inl (.ref q0)], h3, 0, 0)))
  refine k_getI HG rfl K3 hq_q1 rfl (Nat.le_of_ble_eq_true rfl) rfl (?_ : G m _ (29, [(0, .inl (.ref q0)), (1, .inl (.ref q1))], [.inl (.int (hv h3 q1 12)), .inl (.ref q0)], h3, 0, 0))
  refine k_putI HG rfl K3 hq_q0 rfl rfl rfl (fun h4 K4 => (?_ : G m _ (32, [(0, .inl (.ref q0)), (1, .inl (.ref q1))], [], h4, 0, 0)))
  refine k_steps HG 2 (zB_iff.mpr (?_ : G m _ (34, [(0, .inl (.ref q0)), (1, .inl (.ref q1))], [.inl (.ref q1), .inl (.ref q0)], h4, 0, 0)))
  refine k_getI HG rfl K4 hq_q1 rfl (Nat.le_of_ble_eq_true rfl) rfl (?_ : G m _ (37, [(0, .inl (.ref q0)), (1, .inl (.ref q1))], [.inl (.int (hv h4 q1 13)), .inl (.ref q0)], h4, 0, 0))
  refine k_putI HG rfl K4 hq_q0 rfl rfl rfl (fun h5 K5 => (?_ : G m _ (40, [(0, .inl (.ref q0)), (1, .inl (.ref q1))], [], h5, 0, 0)))
  refine k_steps HG 2 (zB_iff.mpr (?_ : G m _ (42, [(0, .inl (.ref q0)), (1, .inl (.ref q1))], [.inl (.ref q1), .inl (.ref q0)], h5, 0, 0)))
  refine k_getI HG rfl K5 hq_q1 rfl (Nat.le_of_ble_eq_true rfl) rfl (?_ : G m _ (45, [(0, .inl (.ref q0)), (1, .inl (.ref q1))], [.inl (.int (hv h5 q1 14)), .inl (.ref q0)], h5, 0, 0))
  refine k_putI HG rfl K5 hq_q0 rfl rfl rfl (fun h6 K6 => (?_ : G m _ (48, [(0, .inl (.ref q0)), (1, .inl (.ref q1))], [], h6, 0, 0)))
  refine k_steps HG 2 (zB_iff.mpr (?_ : G m _ (50, [(0, .inl (.ref q0)), (1, .inl (.ref q1))], [.inl (.ref q1), .inl (.ref q0)], h6, 0, 0)))
  refine k_getI HG rfl K6 hq_q1 rfl (Nat.le_of_ble_eq_true rfl) rfl (?_ : G m _ (53, [(0, .inl (.ref q0)), (1, .inl (.ref q1))], [.inl (.int (hv h6 q1 15)), .inl (.ref q0)], h6, 0, 0))
  refine k_putI HG rfl K6 hq_q0 rfl rfl rfl (fun h7 K7 => (?_ : G m _ (56, [(0, .inl (.ref q0)), (1, .inl (.ref q1))], [], h7, 0, 0)))
  refine k_steps HG 1 (zB_iff.mpr (?_ : G m _ (57, [(0, .inl (.ref q0)), (1, .inl (.ref q1))], [.inl (.ref q1)], h7, 0, 0)))
  refine k_getR HG rfl K7 hq_q1 rfl (Nat.le_of_ble_eq_true rfl) rfl rfl (fun t8 => (?_ : G m _ (60, [(0, .inl (.ref q0)), (1, .inl (.ref q1))], [.inl (.ref (hr h7 q1 16))], h7, 0, 0)))
  refine k_steps HG 1 (zB_iff.mpr (?_ : G m _ (61, [(0, .inl (.ref q0)), (1, .inl (.ref q1))], [.inl (.ref q0), .inl (.ref (hr h7 q1 16))], h7, 0, 0)))
  refine k_getR HG rfl K7 hq_q0 rfl (Nat.le_of_ble_eq_true rfl) rfl rfl (fun t9 => (?_ : G m _ (64, [(0, .inl (.ref q0)), (1, .inl (.ref q1))], [.inl (.ref (hr h7 q0 16)), .inl (.ref (hr h7 q1 16))], h7, 0, 0)))
  refine k_cSH HG (E' := ze_X5_over) (Or.inl rfl) hsc rfl rfl rfl rfl K7 rfl (fun hh => x_X5_over_31 hsc K7.1 t8 t9 hh) (fun h10 K10 => (?_ : G m _ (67, [(0, .inl (.ref q0)), (1, .inl (.ref q1))], [], h10, 0, 0)))
  refine k_steps HG 2 (zB_iff.mpr (?_ : G m _ (69, [(0, .inl (.ref q0)), (1, .inl (.ref q1))], [.inl (.ref q1), .inl (.ref q0)], h10, 0, 0)))
  refine k_getI HG rfl K10 hq_q1 rfl (Nat.le_of_ble_eq_true rfl) rfl (?_ : G m _ (72, [(0, .inl (.ref q0)), (1, .inl (.ref q1))], [.inl (.int (hv h10 q1 17)), .inl (.ref q0)], h10, 0, 0))
  refine k_putI HG rfl K10 hq_q0 rfl rfl rfl (fun h11 K11 => (?_ : G m _ (75, [(0, .inl (.ref q0)), (1, .inl (.ref q1))], [], h11, 0, 0)))
  refine k_steps HG 1 (zB_iff.mpr (?_ : G m _ (76, [(0, .inl (.ref q0)), (1, .inl (.ref q1))], [.inl (.ref q1)], h11, 0, 0)))
  refine k_getR HG rfl K11 hq_q1 rfl (Nat.le_of_ble_eq_true rfl) rfl rfl (fun t12 => (?_ : G m _ (79, [(0, .inl (.ref q0)), (1, .inl (.ref q1))], [.inl (.ref (hr h11 q1 18))], h11, 0, 0)))
  refine k_steps HG 1 (zB_iff.mpr (?_ : G m _ (80, [(0, .inl (.ref q0)), (1, .inl (.ref q1))], [.inl (.ref q0), .inl (.ref (hr h11 q1 18))], h11, 0, 0)))
  refine k_getR HG rfl K11 hq_q0 rfl (Nat.le_of_ble_eq_true rfl) rfl rfl (fun t13 => (?_ : G m _ (83, [(0, .inl (.ref q0)), (1, .inl (.ref q1))], [.inl (.ref (hr h11 q0 18)), .inl (.ref (hr h11 q1 18))], h11, 0, 0)))
  refine k_cSH HG (E' := ze_X5_over) (Or.inl rfl) hsc rfl rfl rfl rfl K11 rfl (fun hh => x_X5_over_32 hsc K11.1 t12 t13 hh) (fun h14 K14 => (?_ : G m _ (86, [(0, .inl (.ref q0)), (1, .inl (.ref q1))], [], h14, 0, 0)))
  refine k_steps HG 1 (zB_iff.mpr (?_ : G m _ (87, [(0, .inl (.ref q0)), (1, .inl (.ref q1))], [.inl (.ref q1)], h14, 0, 0)))
  refine k_getR HG rfl K14 hq_q1 rfl (Nat.le_of_ble_eq_true rfl) rfl rfl (fun t15 => (?_ : G m _ (90, [(0, .inl (.ref q0)), (1, .inl (.ref q1))], [.inl (.ref (hr h14 q1 19))], h14, 0, 0)))
  refine k_steps HG 1 (zB_iff.mpr (?_ : G m _ (91, [(0, .inl (.ref q0)), (1, .inl (.ref q1))], [.inl (.ref q0), .inl (.ref (hr h14 q1 19))], h14, 0, 0)))
  refine k_getR HG rfl K14 hq_q0 rfl (Nat.le_of_ble_eq_true rfl) rfl rfl (fun t16 => (?_ : G m _ (94, [(0, .inl (.ref q0)), (1, .inl (.ref q1))], [.inl (.ref (hr h14 q0 19)), .inl (.ref (hr h14 q1 19))], h14, 0, 0)))
  refine k_cSH HG (E' := ze_X5_over) (Or.inl rfl) hsc rfl rfl rfl rfl K14 rfl (fun hh => x_X5_over_33 hsc K14.1 t15 t16 hh) (fun h17 K17 => (?_ : G m _ (97, [(0, .inl (.ref q0)), (1, .inl (.ref q1))], [], h17, 0, 0)))
  refine k_steps HG 1 (zB_iff.mpr (?_ : G m _ (98, [(0, .inl (.ref q0)), (1, .inl (.ref q1))], [.inl (.ref q1)], h17, 0, 0)))
  refine k_getR HG rfl K17 hq_q1 rfl (Nat.le_of_ble_eq_true rfl) rfl rfl (fun t18 => (?_ : G m _ (101, [(0, .inl (.ref q0)), (1, .inl (.ref q1))], [.inl (.ref (hr h17 q1 20))], h17, 0, 0)))
  refine k_steps HG 1 (zB_iff.mpr (?_ : G m _ (102, [(0, .inl (.ref q0)), (1, .inl (.ref q1))], [.inl (.ref q0), .inl (.ref (hr h17 q1 20))], h17, 0, 0)))
  refine k_getR HG rfl K17 hq_q0 rfl (Nat.le_of_ble_eq_true rfl) rfl rfl (fun t19 => (?_ : G m _ (105, [(0, .inl (.ref q0)), (1, .inl (.ref q1))], [.inl (.ref (hr h17 q0 20)), .inl (.ref (hr h17 q1 20))], h17, 0, 0)))
  refine k_cSH HG (E' := ze_X5_over) (Or.inl rfl) hsc rfl rfl rfl rfl K17 rfl (fun hh => x_X5_over_34 hsc K17.1 t18 t19 hh) (fun h20 K20 => (?_ : G m _ (108, [(0, .inl (.ref q0)), (1, .inl (.ref q1))], [], h20, 0, 0)))
  refine k_steps HG 1 (zB_iff.mpr (?_ : G m _ (109, [(0, .inl (.ref q0)), (1, .inl (.ref q1))], [.inl (.ref q1)], h20, 0, 0)))
  refine k_getR HG rfl K20 hq_q1 rfl (Nat.le_of_ble_eq_true rfl) rfl rfl (fun t21 => (?_ : G m _ (112, [(0, .inl (.ref q0)), (1, .inl (.ref q1))], [.inl (.ref (hr h20 q1 21))], h20, 0, 0)))
  refine k_steps HG 1 (zB_iff.mpr (?_ : G m _ (113, [(0, .inl (.ref q0)), (1, .inl (.ref q1))], [.inl (.ref q0), .inl (.ref (hr h20 q1 21))], h20, 0, 0)))
  refine k_getR HG rfl K20 hq_q0 rfl (Nat.le_of_ble_eq_true rfl) rfl rfl (fun t22 => (?_ : G m _ (116, [(0, .inl (.ref q0)), (1, .inl (.ref q1))], [.inl (.ref (hr h20 q0 21)), .inl (.ref (hr h20 q1 21))], h20, 0, 0)))
  refine k_cSH HG (E' := ze_X5_over) (Or.inl rfl) hsc rfl rfl rfl rfl K20 rfl (fun hh => x_X5_over_35 hsc K20.1 t21 t22 hh) (fun h23 K23 => (?_ : G m _ (119, [(0, .inl (.ref q0)), (1, .inl (.ref q1))], [], h23, 0, 0)))
  refine k_steps HG 1 (zB_iff.mpr (?_ : G m _ (120, [(0, .inl (.ref q0)), (1, .inl (.ref q1))], [.inl (.ref q1)], h23, 0, 0)))
  refine k_getR HG rfl K23 hq_q1 rfl (Nat.le_of_ble_eq_true rfl) rfl rfl (fun t24 => (?_ : G m _ (123, [(0, .inl (.ref q0)), (1, .inl (.ref q1))], [.inl (.ref (hr h23 q1 22))], h23, 0, 0)))
  refine k_steps HG 1 (zB_iff.mpr (?_ : G m _ (124, [(0, .inl (.ref q0)), (1, .inl (.ref q1))], [.inl (.ref q0), .inl (.ref (hr h23 q1 22))], h23, 0, 0)))
  refine k_getR HG rfl K23 hq_q0 rfl (Nat.le_of_ble_eq_true rfl) rfl rfl (fun t25 => (?_ : G m _ (127, [(0, .inl (.ref q0)), (1, .inl (.ref q1))], [.inl (.ref (hr h23 q0 22)), .inl (.ref (hr h23 q1 22))], h23, 0, 0)))
  refine k_cSH HG (E' := ze_X5_over) (Or.inl rfl) hsc rfl rfl rfl rfl K23 rfl (fun hh => x_X5_over_36 hsc K23.1 t24 t25 hh) (fun h26 K26 => (?_ : G m _ (130, [(0, .inl (.ref q0)), (1, .inl (.ref q1))], [], h26, 0, 0)))
  refine k_steps HG 2 (zB_iff.mpr (?_ : G m _ (132, [(0, .inl (.ref q0)), (1, .inl (.ref q1))], [.inl (.ref q1), .inl (.ref q0)], h26, 0, 0)))
  refine k_getI HG rfl K26 hq_q1 rfl (Nat.le_of_ble_eq_true rfl) rfl (?_ : G m _ (135, [(0, .inl (.ref q0)), (1, .inl (.ref q1))], [.inl (.int (hv h26 q1 23)), .inl (.ref q0)], h26, 0, 0))
  refine k_putI HG rfl K26 hq_q0 rfl rfl rfl (fun h27 K27 => (?_ : G m _ (138, [(0, .inl (.ref q0)), (1, .inl (.ref q1))], [], h27, 0, 0)))
  refine k_steps HG 1 (zB_iff.mpr (?_ : G m _ (139, [(0, .inl (.ref q0)), (1, .inl (.ref q1))], [.inl (.ref q1)], h27, 0, 0)))
  refine k_getR HG rfl K27 hq_q1 rfl (Nat.le_of_ble_eq_true rfl) rfl rfl (fun t28 => (?_ : G m _ (142, [(0, .inl (.ref q0)), (1, .inl (.ref q1))], [.inl (.ref (hr h27 q1 24))], h27, 0, 0)))
  refine k_steps HG 1 (zB_iff.mpr (?_ : G m _ (143, [(0, .inl (.ref q0)), (1, .inl (.ref q1))], [.inl (.ref q0), .inl (.ref (hr h27 q1 24))], h27, 0, 0)))
  refine k_getR HG rfl K27 hq_q0 rfl (Nat.le_of_ble_eq_true rfl) rfl rfl (fun t29 => (?_ : G m _ (146, [(0, .inl (.ref q0)), (1, .inl (.ref q1))], [.inl (.ref (hr h27 q0 24)), .inl (.ref (hr h27 q1 24))], h27, 0, 0)))
  refine k_cSH HG (E' := ze_X5_over) (Or.inl rfl) hsc rfl rfl rfl rfl K27 rfl (fun hh => x_X5_over_37 hsc K27.1 t28 t29 hh) (fun h30 K30 => (?_ : G m _ (149, [(0, .inl (.ref q0)), (1, .inl (.ref q1))], [], h30, 0, 0)))
  refine k_steps HG 2 (zB_iff.mpr (?_ : G m _ (151, [(2, .inl (.int (0 : Int32))), (0, .inl (.ref q0)), (1, .inl (.ref q1))], [], h30, 0, 0)))
  have lp31 : ∀ m31, m31 ≤ m → ∀ (v31_2 : Int32) (h31 : zH), kOK W_X5_takeFrom_56 T T h h31 → G m31 (Pf (fx (B_X5_takeFrom_56_151 q0 q1) [] (v31_2, h31))) (151, [(0, .inl (.ref q0)), (1, .inl (.ref q1)), (2, .inl (.int v31_2))], [], h31, 0, 0) := by
    intro m31
    induction m31 with
    | zero =>
      intros
      exact k_zero HG
    | succ m31 ih31 =>
      intro le31 v31_2 h31 K31
      have le31 := Nat.le_of_succ_le le31
      have ih31 := ih31 le31
      refine k_fx ?_
      rw [B_X5_takeFrom_56_151]
      refine k_first HG 2 (kb_ge (x := v31_2) (y := (4 : Int32)) ?_ ?_)
      · show G m31 _ (177, [(0, .inl (.ref q0)), (1, .inl (.ref q1)), (2, .inl (.int v31_2))], [], h31, 0, 0)
        exact k_retv HG rfl rfl (fun e1 e2 => hR _ e1 e2 K31)
      · show G m31 _ (156, [(0, .inl (.ref q0)), (1, .inl (.ref q1)), (2, .inl (.int v31_2))], [], h31, 0, 0)
        refine k_steps HG 1 (zB_iff.mpr (?_ : G m31 _ (157, [(0, .inl (.ref q0)), (1, .inl (.ref q1)), (2, .inl (.int v31_2))], [.inl (.ref q1)], h31, 0, 0)))
        refine k_getR HG rfl K31 hq_q1 rfl (Nat.le_of_ble_eq_true rfl) rfl rfl (fun t32 => (?_ : G m31 _ (160, [(0, .inl (.ref q0)), (1, .inl (.ref q1)), (2, .inl (.int v31_2))], [.inl (.ref (hr h31 q1 25))], h31, 0, 0)))
        refine k_steps HG 1 (zB_iff.mpr (?_ : G m31 _ (161, [(0, .inl (.ref q0)), (1, .inl (.ref q1)), (2, .inl (.int v31_2))], [.inl (.int v31_2), .inl (.ref (hr h31 q1 25))], h31, 0, 0)))
        refine k_aald HG rfl K31 t32 (fun _ => ⟨rfl, rfl⟩) (fun t33 => (?_ : G m31 _ (162, [(0, .inl (.ref q0)), (1, .inl (.ref q1)), (2, .inl (.int v31_2))], [.inl (.ref (hr h31 (hr h31 q1 25) v31_2.toNatClampNeg))], h31, 0, 0)))
        refine k_steps HG 1 (zB_iff.mpr (?_ : G m31 _ (163, [(0, .inl (.ref q0)), (1, .inl (.ref q1)), (2, .inl (.int v31_2))], [.inl (.ref q0), .inl (.ref (hr h31 (hr h31 q1 25) v31_2.toNatClampNeg))], h31, 0, 0)))
        refine k_getR HG rfl K31 hq_q0 rfl (Nat.le_of_ble_eq_true rfl) rfl rfl (fun t34 => (?_ : G m31 _ (166, [(0, .inl (.ref q0)), (1, .inl (.ref q1)), (2, .inl (.int v31_2))], [.inl (.ref (hr h31 q0 25)), .inl (.ref (hr h31 (hr h31 q1 25) v31_2.toNatClampNeg))], h31, 0, 0)))
        refine k_steps HG 1 (zB_iff.mpr (?_ : G m31 _ (167, [(0, .inl (.ref q0)), (1, .inl (.ref q1)), (2, .inl (.int v31_2))], [.inl (.int v31_2), .inl (.ref (hr h31 q0 25)), .inl (.ref (hr h31 (hr h31 q1 25) v31_2.toNatClampNeg))], h31, 0, 0)))
        refine k_aald HG rfl K31 t34 (fun _ => ⟨rfl, rfl⟩) (fun t35 => (?_ : G m31 _ (168, [(0, .inl (.ref q0)), (1, .inl (.ref q1)), (2, .inl (.int v31_2))], [.inl (.ref (hr h31 (hr h31 q0 25) v31_2.toNatClampNeg)), .inl (.ref (hr h31 (hr h31 q1 25) v31_2.toNatClampNeg))], h31, 0, 0)))
        refine k_cSH HG (E' := ze_X5_over) (Or.inl rfl) hsc rfl rfl rfl rfl K31 rfl (fun hh => x_X5_over_39 hsc K31.1 t33 t35 hh) (fun h36 K36 => (?_ : G m31 _ (171, [(0, .inl (.ref q0)), (1, .inl (.ref q1)), (2, .inl (.int v31_2))], [], h36, 0, 0)))
        refine k_steps HG 2 (zB_iff.mpr (?_ : G m31 _ (151, [(2, .inl (.int (v31_2 + (1 : Int32)))), (0, .inl (.ref q0)), (1, .inl (.ref q1))], [], h36, 0, 0)))
        refine k_ext HG (L' := [(0, .inl (.ref q0)), (1, .inl (.ref q1)), (2, .inl (.int (v31_2 + (1 : Int32))))]) rfl rfl ⟨rfl, rfl, rfl, trivial⟩ ?_
        exact ih31 _ _ K36
  refine k_ext HG (L' := [(0, .inl (.ref q0)), (1, .inl (.ref q1)), (2, .inl (.int (0 : Int32)))]) rfl rfl ⟨rfl, rfl, rfl, trivial⟩ ?_
  exact lp31 m (Nat.le_refl _) _ _ K30
def W_X5_takeFrom_65 : List (Nat × Nat) := [(6, 9), (6, 10), (6, 11), (6, 12), (6, 13), (6, 14), (6, 15), (6, 17), (6, 23), (31, 1000), (32, 1000), (33, 1000), (34, 1000), (35, 1000), (36, 1000), (37, 1000), (39, 1000)]
noncomputable def B_X5_takeFrom_65_151 (c0 : Nat) (c1 : Nat) (s : (Int32 × zH)) : (Int32 × zH) ⊕ (zH) := (if s.1 < (4 : Int32) then (letf (F_X5_over_39 s.2 (hr s.2 (hr s.2 c1 25) s.1.toNatClampNeg) (hr s.2 (hr s.2 c0 25) s.1.toNatClampNeg)) (fun h1005 => (Sum.inl ((s.1 + (1 : Int32)), h1005)))) else (Sum.inr s.2))
noncomputable def F_X5_takeFrom_65 (h : zH) (q0 : Nat) (q1 : Nat) : zH := (letf (hput h q0 9 (.inl (.int (hv h q1 9)))) (fun h1 => (letf (hput h1 q0 10 (.inl (.int (hv h1 q1 10)))) (fun h2 => (letf (hput h2 q0 11 (.inl (.int (hv h2 q1 11)))) (fun h3 => (letf (hput h3 q0 12 (.inl (.int (hv h3 q1 12)))) (fun h4 => (letf (hput h4 q0 13 (.inl (.int (hv h4 q1 13)))) (fun h5 => (letf (hput h5 q0 14 (.inl (.int (hv h5 q1 14)))) (fun h6 => (letf (hput h6 q0 15 (.inl (.int (hv h6 q1 15)))) (fun h7 => (letf (F_X5_over_31 h7 (hr h7 q1 16) (hr h7 q0 16)) (fun h10 => (letf (hput h10 q0 17 (.inl (.int (hv h10 q1 17)))) (fun h11 => (letf (F_X5_over_32 h11 (hr h11 q1 18) (hr h11 q0 18)) (fun h14 => (letf (F_X5_over_33 h14 (hr h14 q1 19) (hr h14 q0 19)) (fun h17 => (letf (F_X5_over_34 h17 (hr h17 q1 20) (hr h17 q0 20)) (fun h20 => (letf (F_X5_over_35 h20 (hr h20 q1 21) (hr h20 q0 21)) (fun h23 => (letf (F_X5_over_36 h23 (hr h23 q1 22) (hr h23 q0 22)) (fun h26 => (letf (hput h26 q0 23 (.inl (.int (hv h26 q1 23)))) (fun h27 => (letf (F_X5_over_37 h27 (hr h27 q1 24) (hr h27 q0 24)) (fun h30 => (fx (B_X5_takeFrom_65_151 q0 q1) [] ((0 : Int32), h30))))))))))))))))))))))))))))))))))
theorem x_X5_takeFrom_65 {scr : List zV} {T : List Nat} {h : zH} {q0 : Nat} {q1 : Nat} (hsc : cT scr) (K : hOK kty T h) (hq_q0 : T[q0]? = some 6) (hq_q1 : T[q1]? = some 5) (hh : cH h) : xH scr W_X5_takeFrom_65 T T 232 [.inl (.ref q0), .inl (.ref q1)] h (F_X5_takeFrom_65 h q0 q1) := by
  refine xH_intro (E := ze_X5_takeFrom) hsc rfl (cTb_ok rfl) hh (fun d r h' G HG Pf hR m => ?_)
  have K := kOK_refl (W := W_X5_takeFrom_65) K
  unfold F_X5_takeFrom_65
  show G m _ (0, [(0, .inl (.ref q0)), (1, .inl (.ref q1))], [], h, 0, 0)
  refine k_steps HG 2 (zB_iff.mpr (?_ : G m _ (2, [(0, .inl (.ref q0)), (1, .inl (.ref q1))], [.inl (.ref q1), .inl (.ref q0)], h, 0, 0)))
  refine k_getI HG rfl K hq_q1 rfl (Nat.le_of_ble_eq_true rfl) rfl (?_ : G m _ (5, [(0, .inl (.ref q0)), (1, .inl (.ref q1))], [.inl (.int (hv h q1 9)), .inl (.ref q0)], h, 0, 0))
  refine k_putI HG rfl K hq_q0 rfl rfl rfl (fun h1 K1 => (?_ : G m _ (8, [(0, .inl (.ref q0)), (1, .inl (.ref q1))], [], h1, 0, 0)))
  refine k_steps HG 2 (zB_iff.mpr (?_ : G m _ (10, [(0, .inl (.ref q0)), (1, .inl (.ref q1))], [.inl (.ref q1), .inl (.ref q0)], h1, 0, 0)))
  refine k_getI HG rfl K1 hq_q1 rfl (Nat.le_of_ble_eq_true rfl) rfl (?_ : G m _ (13, [(0, .inl (.ref q0)), (1, .inl (.ref q1))], [.inl (.int (hv h1 q1 10)), .inl (.ref q0)], h1, 0, 0))
  refine k_putI HG rfl K1 hq_q0 rfl rfl rfl (fun h2 K2 => (?_ : G m _ (16, [(0, .inl (.ref q0)), (1, .inl (.ref q1))], [], h2, 0, 0)))
  refine k_steps HG 2 (zB_iff.mpr (?_ : G m _ (18, [(0, .inl (.ref q0)), (1, .inl (.ref q1))], [.inl (.ref q1), .inl (.ref q0)], h2, 0, 0)))
  refine k_getI HG rfl K2 hq_q1 rfl (Nat.le_of_ble_eq_true rfl) rfl (?_ : G m _ (21, [(0, .inl (.ref q0)), (1, .inl (.ref q1))], [.inl (.int (hv h2 q1 11)), .inl (.ref q0)], h2, 0, 0))
  refine k_putI HG rfl K2 hq_q0 rfl rfl rfl (fun h3 K3 => (?_ : G m _ (24, [(0, .inl (.ref q0)), (1, .inl (.ref q1))], [], h3, 0, 0)))
  refine k_steps HG 2 (zB_iff.mpr (?_ : G m _ (26, [(0, .inl (.ref q0)), (1, .inl (.ref q1))], [.inl (.ref q1), .inl (.ref q0)], h3, 0, 0)))
  refine k_getI HG rfl K3 hq_q1 rfl (Nat.le_of_ble_eq_true rfl) rfl (?_ : G m _ (29, [(0, .inl (.ref q0)), (1, .inl (.ref q1))], [.inl (.int (hv h3 q1 12)), .inl (.ref q0)], h3, 0, 0))
  refine k_putI HG rfl K3 hq_q0 rfl rfl rfl (fun h4 K4 => (?_ : G m _ (32, [(0, .inl (.ref q0)), (1, .inl (.ref q1))], [], h4, 0, 0)))
  refine k_steps HG 2 (zB_iff.mpr (?_ : G m _ (34, [(0, .inl (.ref q0)), (1, .inl (.ref q1))], [.inl (.ref q1), .inl (.ref q0)], h4, 0, 0)))
  refine k_getI HG rfl K4 hq_q1 rfl (Nat.le_of_ble_eq_true rfl) rfl (?_ : G m _ (37, [(0, .inl (.ref q0)), (1, .inl (.ref q1))], [.inl (.int (hv h4 q1 13)), .inl (.ref q0)], h4, 0, 0))
  refine k_putI HG rfl K4 hq_q0 rfl rfl rfl (fun h5 K5 => (?_ : G m _ (40, [(0, .inl (.ref q0)), (1, .inl (.ref q1))], [], h5, 0, 0)))
  refine k_steps HG 2 (zB_iff.mpr (?_ : G m _ (42, [(0, .inl (.ref q0)), (1, .inl (.ref q1))], [.inl (.ref q1), .inl (.ref q0)], h5, 0, 0)))
  refine k_getI HG rfl K5 hq_q1 rfl (Nat.le_of_ble_eq_true rfl) rfl (?_ : G m _ (45, [(0, .inl (.ref q0)), (1, .inl (.ref q1))], [.inl (.int (hv h5 q1 14)), .inl (.ref q0)], h5, 0, 0))
  refine k_putI HG rfl K5 hq_q0 rfl rfl rfl (fun h6 K6 => (?_ : G m _ (48, [(0, .inl (.ref q0)), (1, .inl (.ref q1))], [], h6, 0, 0)))
  refine k_steps HG 2 (zB_iff.mpr (?_ : G m _ (50, [(0, .inl (.ref q0)), (1, .inl (.ref q1))], [.inl (.ref q1), .inl (.ref q0)], h6, 0, 0)))
  refine k_getI HG rfl K6 hq_q1 rfl (Nat.le_of_ble_eq_true rfl) rfl (?_ : G m _ (53, [(0, .inl (.ref q0)), (1, .inl (.ref q1))], [.inl (.int (hv h6 q1 15)), .inl (.ref q0)], h6, 0, 0))
  refine k_putI HG rfl K6 hq_q0 rfl rfl rfl (fun h7 K7 => (?_ : G m _ (56, [(0, .inl (.ref q0)), (1, .inl (.ref q1))], [], h7, 0, 0)))
  refine k_steps HG 1 (zB_iff.mpr (?_ : G m _ (57, [(0, .inl (.ref q0)), (1, .inl (.ref q1))], [.inl (.ref q1)], h7, 0, 0)))
  refine k_getR HG rfl K7 hq_q1 rfl (Nat.le_of_ble_eq_true rfl) rfl rfl (fun t8 => (?_ : G m _ (60, [(0, .inl (.ref q0)), (1, .inl (.ref q1))], [.inl (.ref (hr h7 q1 16))], h7, 0, 0)))
  refine k_steps HG 1 (zB_iff.mpr (?_ : G m _ (61, [(0, .inl (.ref q0)), (1, .inl (.ref q1))], [.inl (.ref q0), .inl (.ref (hr h7 q1 16))], h7, 0, 0)))
  refine k_getR HG rfl K7 hq_q0 rfl (Nat.le_of_ble_eq_true rfl) rfl rfl (fun t9 => (?_ : G m _ (64, [(0, .inl (.ref q0)), (1, .inl (.ref q1))], [.inl (.ref (hr h7 q0 16)), .inl (.ref (hr h7 q1 16))], h7, 0, 0)))
  refine k_cSH HG (E' := ze_X5_over) (Or.inl rfl) hsc rfl rfl rfl rfl K7 rfl (fun hh => x_X5_over_31 hsc K7.1 t8 t9 hh) (fun h10 K10 => (?_ : G m _ (67, [(0, .inl (.ref q0)), (1, .inl (.ref q1))], [], h10, 0, 0)))
  refine k_steps HG 2 (zB_iff.mpr (?_ : G m _ (69, [(0, .inl (.ref q0)), (1, .inl (.ref q1))], [.inl (.ref q1), .inl (.ref q0)], h10, 0, 0)))
  refine k_getI HG rfl K10 hq_q1 rfl (Nat.le_of_ble_eq_true rfl) rfl (?_ : G m _ (72, [(0, .inl (.ref q0)), (1, .inl (.ref q1))], [.inl (.int (hv h10 q1 17)), .inl (.ref q0)], h10, 0, 0))
  refine k_putI HG rfl K10 hq_q0 rfl rfl rfl (fun h11 K11 => (?_ : G m _ (75, [(0, .inl (.ref q0)), (1, .inl (.ref q1))], [], h11, 0, 0)))
  refine k_steps HG 1 (zB_iff.mpr (?_ : G m _ (76, [(0, .inl (.ref q0)), (1, .inl (.ref q1))], [.inl (.ref q1)], h11, 0, 0)))
  refine k_getR HG rfl K11 hq_q1 rfl (Nat.le_of_ble_eq_true rfl) rfl rfl (fun t12 => (?_ : G m _ (79, [(0, .inl (.ref q0)), (1, .inl (.ref q1))], [.inl (.ref (hr h11 q1 18))], h11, 0, 0)))
  refine k_steps HG 1 (zB_iff.mpr (?_ : G m _ (80, [(0, .inl (.ref q0)), (1, .inl (.ref q1))], [.inl (.ref q0), .inl (.ref (hr h11 q1 18))], h11, 0, 0)))
  refine k_getR HG rfl K11 hq_q0 rfl (Nat.le_of_ble_eq_true rfl) rfl rfl (fun t13 => (?_ : G m _ (83, [(0, .inl (.ref q0)), (1, .inl (.ref q1))], [.inl (.ref (hr h11 q0 18)), .inl (.ref (hr h11 q1 18))], h11, 0, 0)))
  refine k_cSH HG (E' := ze_X5_over) (Or.inl rfl) hsc rfl rfl rfl rfl K11 rfl (fun hh => x_X5_over_32 hsc K11.1 t12 t13 hh) (fun h14 K14 => (?_ : G m _ (86, [(0, .inl (.ref q0)), (1, .inl (.ref q1))], [], h14, 0, 0)))
  refine k_steps HG 1 (zB_iff.mpr (?_ : G m _ (87, [(0, .inl (.ref q0)), (1, .inl (.ref q1))], [.inl (.ref q1)], h14, 0, 0)))
  refine k_getR HG rfl K14 hq_q1 rfl (Nat.le_of_ble_eq_true rfl) rfl rfl (fun t15 => (?_ : G m _ (90, [(0, .inl (.ref q0)), (1, .inl (.ref q1))], [.inl (.ref (hr h14 q1 19))], h14, 0, 0)))
  refine k_steps HG 1 (zB_iff.mpr (?_ : G m _ (91, [(0, .inl (.ref q0)), (1, .inl (.ref q1))], [.inl (.ref q0), .inl (.ref (hr h14 q1 19))], h14, 0, 0)))
  refine k_getR HG rfl K14 hq_q0 rfl (Nat.le_of_ble_eq_true rfl) rfl rfl (fun t16 => (?_ : G m _ (94, [(0, .inl (.ref q0)), (1, .inl (.ref q1))], [.inl (.ref (hr h14 q0 19)), .inl (.ref (hr h14 q1 19))], h14, 0, 0)))
  refine k_cSH HG (E' := ze_X5_over) (Or.inl rfl) hsc rfl rfl rfl rfl K14 rfl (fun hh => x_X5_over_33 hsc K14.1 t15 t16 hh) (fun h17 K17 => (?_ : G m _ (97, [(0, .inl (.ref q0)), (1, .inl (.ref q1))], [], h17, 0, 0)))
  refine k_steps HG 1 (zB_iff.mpr (?_ : G m _ (98, [(0, .inl (.ref q0)), (1, .inl (.ref q1))], [.inl (.ref q1)], h17, 0, 0)))
  refine k_getR HG rfl K17 hq_q1 rfl (Nat.le_of_ble_eq_true rfl) rfl rfl (fun t18 => (?_ : G m _ (101, [(0, .inl (.ref q0)), (1, .inl (.ref q1))], [.inl (.ref (hr h17 q1 20))], h17, 0, 0)))
  refine k_steps HG 1 (zB_iff.mpr (?_ : G m _ (102, [(0, .inl (.ref q0)), (1, .inl (.ref q1))], [.inl (.ref q0), .inl (.ref (hr h17 q1 20))], h17, 0, 0)))
  refine k_getR HG rfl K17 hq_q0 rfl (Nat.le_of_ble_eq_true rfl) rfl rfl (fun t19 => (?_ : G m _ (105, [(0, .inl (.ref q0)), (1, .inl (.ref q1))], [.inl (.ref (hr h17 q0 20)), .inl (.ref (hr h17 q1 20))], h17, 0, 0)))
  refine k_cSH HG (E' := ze_X5_over) (Or.inl rfl) hsc rfl rfl rfl rfl K17 rfl (fun hh => x_X5_over_34 hsc K17.1 t18 t19 hh) (fun h20 K20 => (?_ : G m _ (108, [(0, .inl (.ref q0)), (1, .inl (.ref q1))], [], h20, 0, 0)))
  refine k_steps HG 1 (zB_iff.mpr (?_ : G m _ (109, [(0, .inl (.ref q0)), (1, .inl (.ref q1))], [.inl (.ref q1)], h20, 0, 0)))
  refine k_getR HG rfl K20 hq_q1 rfl (Nat.le_of_ble_eq_true rfl) rfl rfl (fun t21 => (?_ : G m _ (112, [(0, .inl (.ref q0)), (1, .inl (.ref q1))], [.inl (.ref (hr h20 q1 21))], h20, 0, 0)))
  refine k_steps HG 1 (zB_iff.mpr (?_ : G m _ (113, [(0, .inl (.ref q0)), (1, .inl (.ref q1))], [.inl (.ref q0), .inl (.ref (hr h20 q1 21))], h20, 0, 0)))
  refine k_getR HG rfl K20 hq_q0 rfl (Nat.le_of_ble_eq_true rfl) rfl rfl (fun t22 => (?_ : G m _ (116, [(0, .inl (.ref q0)), (1, .inl (.ref q1))], [.inl (.ref (hr h20 q0 21)), .inl (.ref (hr h20 q1 21))], h20, 0, 0)))
  refine k_cSH HG (E' := ze_X5_over) (Or.inl rfl) hsc rfl rfl rfl rfl K20 rfl (fun hh => x_X5_over_35 hsc K20.1 t21 t22 hh) (fun h23 K23 => (?_ : G m _ (119, [(0, .inl (.ref q0)), (1, .inl (.ref q1))], [], h23, 0, 0)))
  refine k_steps HG 1 (zB_iff.mpr (?_ : G m _ (120, [(0, .inl (.ref q0)), (1, .inl (.ref q1))], [.inl (.ref q1)], h23, 0, 0)))
  refine k_getR HG rfl K23 hq_q1 rfl (Nat.le_of_ble_eq_true rfl) rfl rfl (fun t24 => (?_ : G m _ (123, [(0, .inl (.ref q0)), (1, .inl (.ref q1))], [.inl (.ref (hr h23 q1 22))], h23, 0, 0)))
  refine k_steps HG 1 (zB_iff.mpr (?_ : G m _ (124, [(0, .inl (.ref q0)), (1, .inl (.ref q1))], [.inl (.ref q0), .inl (.ref (hr h23 q1 22))], h23, 0, 0)))
  refine k_getR HG rfl K23 hq_q0 rfl (Nat.le_of_ble_eq_true rfl) rfl rfl (fun t25 => (?_ : G m _ (127, [(0, .inl (.ref q0)), (1, .inl (.ref q1))], [.inl (.ref (hr h23 q0 22)), .inl (.ref (hr h23 q1 22))], h23, 0, 0)))
  refine k_cSH HG (E' := ze_X5_over) (Or.inl rfl) hsc rfl rfl rfl rfl K23 rfl (fun hh => x_X5_over_36 hsc K23.1 t24 t25 hh) (fun h26 K26 => (?_ : G m _ (130, [(0, .inl (.ref q0)), (1, .inl (.ref q1))], [], h26, 0, 0)))
  refine k_steps HG 2 (zB_iff.mpr (?_ : G m _ (132, [(0, .inl (.ref q0)), (1, .inl (.ref q1))], [.inl (.ref q1), .inl (.ref q0)], h26, 0, 0)))
  refine k_getI HG rfl K26 hq_q1 rfl (Nat.le_of_ble_eq_true rfl) rfl (?_ : G m _ (135, [(0, .inl (.ref q0)), (1, .inl (.ref q1))], [.inl (.int (hv h26 q1 23)), .inl (.ref q0)], h26, 0, 0))
  refine k_putI HG rfl K26 hq_q0 rfl rfl rfl (fun h27 K27 => (?_ : G m _ (138, [(0, .inl (.ref q0)), (1, .inl (.ref q1))], [], h27, 0, 0)))
  refine k_steps HG 1 (zB_iff.mpr (?_ : G m _ (139, [(0, .inl (.ref q0)), (1, .inl (.ref q1))], [.inl (.ref q1)], h27, 0, 0)))
  refine k_getR HG rfl K27 hq_q1 rfl (Nat.le_of_ble_eq_true rfl) rfl rfl (fun t28 => (?_ : G m _ (142, [(0, .inl (.ref q0)), (1, .inl (.ref q1))], [.inl (.ref (hr h27 q1 24))], h27, 0, 0)))
  refine k_steps HG 1 (zB_iff.mpr (?_ : G m _ (143, [(0, .inl (.ref q0)), (1, .inl (.ref q1))], [.inl (.ref q0), .inl (.ref (hr h27 q1 24))], h27, 0, 0)))
  refine k_getR HG rfl K27 hq_q0 rfl (Nat.le_of_ble_eq_true rfl) rfl rfl (fun t29 => (?_ : G m _ (146, [(0, .inl (.ref q0)), (1, .inl (.ref q1))], [.inl (.ref (hr h27 q0 24)), .inl (.ref (hr h27 q1 24))], h27, 0, 0)))
  refine k_cSH HG (E' := ze_X5_over) (Or.inl rfl) hsc rfl rfl rfl rfl K27 rfl (fun hh => x_X5_over_37 hsc K27.1 t28 t29 hh) (fun h30 K30 => (?_ : G m _ (149, [(0, .inl (.ref q0)), (1, .inl (.ref q1))], [], h30, 0, 0)))
  refine k_steps HG 2 (zB_iff.mpr (?_ : G m _ (151, [(2, .inl (.int (0 : Int32))), (0, .inl (.ref q0)), (1, .inl (.ref q1))], [], h30, 0, 0)))
  have lp31 : ∀ m31, m31 ≤ m → ∀ (v31_2 : Int32) (h31 : zH), kOK W_X5_takeFrom_65 T T h h31 → G m31 (Pf (fx (B_X5_takeFrom_65_151 q0 q1) [] (v31_2, h31))) (151, [(0, .inl (.ref q0)), (1, .inl (.ref q1)), (2, .inl (.int v31_2))], [], h31, 0, 0) := by
    intro m31
    induction m31 with
    | zero =>
      intros
      exact k_zero HG
    | succ m31 ih31 =>
      intro le31 v31_2 h31 K31
      have le31 := Nat.le_of_succ_le le31
      have ih31 := ih31 le31
      refine k_fx ?_
      rw [B_X5_takeFrom_65_151]
      refine k_first HG 2 (kb_ge (x := v31_2) (y := (4 : Int32)) ?_ ?_)
      · show G m31 _ (177, [(0, .inl (.ref q0)), (1, .inl (.ref q1)), (2, .inl (.int v31_2))], [], h31, 0, 0)
        exact k_retv HG rfl rfl (fun e1 e2 => hR _ e1 e2 K31)
      · show G m31 _ (156, [(0, .inl (.ref q0)), (1, .inl (.ref q1)), (2, .inl (.int v31_2))], [], h31, 0, 0)
        refine k_steps HG 1 (zB_iff.mpr (?_ : G m31 _ (157, [(0, .inl (.ref q0)), (1, .inl (.ref q1)), (2, .inl (.int v31_2))], [.inl (.ref q1)], h31, 0, 0)))
        refine k_getR HG rfl K31 hq_q1 rfl (Nat.le_of_ble_eq_true rfl) rfl rfl (fun t32 => (?_ : G m31 _ (160, [(0, .inl (.ref q0)), (1, .inl (.ref q1)), (2, .inl (.int v31_2))], [.inl (.ref (hr h31 q1 25))], h31, 0, 0)))
        refine k_steps HG 1 (zB_iff.mpr (?_ : G m31 _ (161, [(0, .inl (.ref q0)), (1, .inl (.ref q1)), (2, .inl (.int v31_2))], [.inl (.int v31_2), .inl (.ref (hr h31 q1 25))], h31, 0, 0)))
        refine k_aald HG rfl K31 t32 (fun _ => ⟨rfl, rfl⟩) (fun t33 => (?_ : G m31 _ (162, [(0, .inl (.ref q0)), (1, .inl (.ref q1)), (2, .inl (.int v31_2))], [.inl (.ref (hr h31 (hr h31 q1 25) v31_2.toNatClampNeg))], h31, 0, 0)))
        refine k_steps HG 1 (zB_iff.mpr (?_ : G m31 _ (163, [(0, .inl (.ref q0)), (1, .inl (.ref q1)), (2, .inl (.int v31_2))], [.inl (.ref q0), .inl (.ref (hr h31 (hr h31 q1 25) v31_2.toNatClampNeg))], h31, 0, 0)))
        refine k_getR HG rfl K31 hq_q0 rfl (Nat.le_of_ble_eq_true rfl) rfl rfl (fun t34 => (?_ : G m31 _ (166, [(0, .inl (.ref q0)), (1, .inl (.ref q1)), (2, .inl (.int v31_2))], [.inl (.ref (hr h31 q0 25)), .inl (.ref (hr h31 (hr h31 q1 25) v31_2.toNatClampNeg))], h31, 0, 0)))
        refine k_steps HG 1 (zB_iff.mpr (?_ : G m31 _ (167, [(0, .inl (.ref q0)), (1, .inl (.ref q1)), (2, .inl (.int v31_2))], [.inl (.int v31_2), .inl (.ref (hr h31 q0 25)), .inl (.ref (hr h31 (hr h31 q1 25) v31_2.toNatClampNeg))], h31, 0, 0)))
        refine k_aald HG rfl K31 t34 (fun _ => ⟨rfl, rfl⟩) (fun t35 => (?_ : G m31 _ (168, [(0, .inl (.ref q0)), (1, .inl (.ref q1)), (2, .inl (.int v31_2))], [.inl (.ref (hr h31 (hr h31 q0 25) v31_2.toNatClampNeg)), .inl (.ref (hr h31 (hr h31 q1 25) v31_2.toNatClampNeg))], h31, 0, 0)))
        refine k_cSH HG (E' := ze_X5_over) (Or.inl rfl) hsc rfl rfl rfl rfl K31 rfl (fun hh => x_X5_over_39 hsc K31.1 t33 t35 hh) (fun h36 K36 => (?_ : G m31 _ (171, [(0, .inl (.ref q0)), (1, .inl (.ref q1)), (2, .inl (.int v31_2))], [], h36, 0, 0)))
        refine k_steps HG 2 (zB_iff.mpr (?_ : G m31 _ (151, [(2, .inl (.int (v31_2 + (1 : Int32)))), (0, .inl (.ref q0)), (1, .inl (.ref q1))], [], h36, 0, 0)))
        refine k_ext HG (L' := [(0, .inl (.ref q0)), (1, .inl (.ref q1)), (2, .inl (.int (v31_2 + (1 : Int32))))]) rfl rfl ⟨rfl, rfl, rfl, trivial⟩ ?_
        exact ih31 _ _ K36
  refine k_ext HG (L' := [(0, .inl (.ref q0)), (1, .inl (.ref q1)), (2, .inl (.int (0 : Int32)))]) rfl rfl ⟨rfl, rfl, rfl, trivial⟩ ?_
  exact lp31 m (Nat.le_refl _) _ _ K30
noncomputable def F_X5_wonBy (h : zH) (q0 : Nat) (a1 : Int32) (a2 : Int32) : Int32 := (if (hv h (hr h q0 18) a1.toNatClampNeg) = (3 : Int32) then (letf (F_X5_brought h q0 a1 a2) (fun y2 => (if y2 = (-1 : Int32) then (((1 : Int32) <<< (a1 &&& 31)) ||| (0 : Int32)) else (((1 : Int32) <<< (a1 &&& 31)) ||| ((1 : Int32) <<< (y2 &&& 31)))))) else (((1 : Int32) <<< (a1 &&& 31)) ||| (0 : Int32)))
theorem x_X5_wonBy {scr : List zV} {T : List Nat} {h : zH} {q0 : Nat} {a1 : Int32} {a2 : Int32} (hsc : cT scr) (K : hOK kty T h) (hq_q0 : T[q0]? = some 5) (hh : cH h) : xI scr 246 [.inl (.ref q0), .inl (.int a1), .inl (.int a2)] h (F_X5_wonBy h q0 a1 a2) := by
  refine xI_intro (E := ze_X5_wonBy) hsc rfl (cTb_ok rfl) hh (fun d r h' G HG Pf hR m => ?_)
  have K := kOK_refl (W := []) K
  unfold F_X5_wonBy
  show G m _ (0, [(0, .inl (.ref q0)), (1, .inl (.int a1)), (2, .inl (.int a2))], [], h, 0, 0)
  refine k_steps HG 1 (zB_iff.mpr (?_ : G m _ (1, [(0, .inl (.ref q0)), (1, .inl (.int a1)), (2, .inl (.int a2))], [.inl (.ref q0)], h, 0, 0)))
  refine k_getR HG rfl K hq_q0 rfl (Nat.le_of_ble_eq_true rfl) rfl rfl (fun t1 => (?_ : G m _ (4, [(0, .inl (.ref q0)), (1, .inl (.int a1)), (2, .inl (.int a2))], [.inl (.ref (hr h q0 18))], h, 0, 0)))
  refine k_steps HG 1 (zB_iff.mpr (?_ : G m _ (5, [(0, .inl (.ref q0)), (1, .inl (.int a1)), (2, .inl (.int a2))], [.inl (.int a1), .inl (.ref (hr h q0 18))], h, 0, 0)))
  refine k_iald HG rfl K t1 rfl (fun _ => rfl) (?_ : G m _ (6, [(0, .inl (.ref q0)), (1, .inl (.int a1)), (2, .inl (.int a2))], [.inl (.int (hv h (hr h q0 18) a1.toNatClampNeg))], h, 0, 0))
  refine k_steps HG 2 (kb_ne (x := (hv h (hr h q0 18) a1.toNatClampNeg)) (y := (3 : Int32)) ?_ ?_)
  · show G m _ (19, [(0, .inl (.ref q0)), (1, .inl (.int a1)), (2, .inl (.int a2))], [], h, 0, 0)
    refine k_steps HG 11 (zB_iff.mpr (?_ : G m _ (37, [(3, .inl (.int (-1 : Int32))), (0, .inl (.ref q0)), (1, .inl (.int a1)), (2, .inl (.int a2))], [.inl (.int (((1 : Int32) <<< (a1 &&& 31)) ||| (0 : Int32)))], h, 0, 0)))
    exact k_reti HG rfl rfl (fun e1 e2 => hR _ e1 e2)
  · show G m _ (10, [(0, .inl (.ref q0)), (1, .inl (.int a1)), (2, .inl (.int a2))], [], h, 0, 0)
    refine k_steps HG 3 (zB_iff.mpr (?_ : G m _ (13, [(0, .inl (.ref q0)), (1, .inl (.int a1)), (2, .inl (.int a2))], [.inl (.int a2), .inl (.int a1), .inl (.ref q0)], h, 0, 0)))
    refine k_cVI HG (E' := ze_X5_brought) (Or.inl ⟨rfl, rfl⟩) hsc rfl rfl rfl rfl rfl (fun hh => x_X5_brought hsc K.1 hq_q0 hh) (fun y2 => (?_ : G m _ (16, [(0, .inl (.ref q0)), (1, .inl (.int a1)), (2, .inl (.int a2))], [.inl (.int y2)], h, 0, 0)))
    refine k_steps HG 8 (kb_ne (x := y2) (y := (-1 : Int32)) ?_ ?_)
    · show G m _ (33, [(3, .inl (.int y2)), (0, .inl (.ref q0)), (1, .inl (.int a1)), (2, .inl (.int a2))], [.inl (.int ((1 : Int32) <<< (a1 &&& 31)))], h, 0, 0)
      refine k_steps HG 4 (zB_iff.mpr (?_ : G m _ (37, [(3, .inl (.int y2)), (0, .inl (.ref q0)), (1, .inl (.int a1)), (2, .inl (.int a2))], [.inl (.int (((1 : Int32) <<< (a1 &&& 31)) ||| ((1 : Int32) <<< (y2 &&& 31))))], h, 0, 0)))
      exact k_reti HG rfl rfl (fun e1 e2 => hR _ e1 e2)
    · show G m _ (29, [(3, .inl (.int y2)), (0, .inl (.ref q0)), (1, .inl (.int a1)), (2, .inl (.int a2))], [.inl (.int ((1 : Int32) <<< (a1 &&& 31)))], h, 0, 0)
      refine k_steps HG 3 (zB_iff.mpr (?_ : G m _ (37, [(3, .inl (.int y2)), (0, .inl (.ref q0)), (1, .inl (.int a1)), (2, .inl (.int a2))], [.inl (.int (((1 : Int32) <<< (a1 &&& 31)) ||| (0 : Int32)))], h, 0, 0)))
      exact k_reti HG rfl rfl (fun e1 e2 => hR _ e1 e2)
noncomputable def F_X5_wonBy_6 (h : zH) (q0 : Nat) (a1 : Int32) (a2 : Int32) : Int32 := (if (hv h (hr h q0 18) a1.toNatClampNeg) = (3 : Int32) then (letf (F_X5_brought_6 h q0 a1 a2) (fun y2 => (if y2 = (-1 : Int32) then (((1 : Int32) <<< (a1 &&& 31)) ||| (0 : Int32)) else (((1 : Int32) <<< (a1 &&& 31)) ||| ((1 : Int32) <<< (y2 &&& 31)))))) else (((1 : Int32) <<< (a1 &&& 31)) ||| (0 : Int32)))
theorem x_X5_wonBy_6 {scr : List zV} {T : List Nat} {h : zH} {q0 : Nat} {a1 : Int32} {a2 : Int32} (hsc : cT scr) (K : hOK kty T h) (hq_q0 : T[q0]? = some 6) (hh : cH h) : xI scr 246 [.inl (.ref q0), .inl (.int a1), .inl (.int a2)] h (F_X5_wonBy_6 h q0 a1 a2) := by
  refine xI_intro (E := ze_X5_wonBy) hsc rfl (cTb_ok rfl) hh (fun d r h' G HG Pf hR m => ?_)
  have K := kOK_refl (W := []) K
  unfold F_X5_wonBy_6
  show G m _ (0, [(0, .inl (.ref q0)), (1, .inl (.int a1)), (2, .inl (.int a2))], [], h, 0, 0)
  refine k_steps HG 1 (zB_iff.mpr (?_ : G m _ (1, [(0, .inl (.ref q0)), (1, .inl (.int a1)), (2, .inl (.int a2))], [.inl (.ref q0)], h, 0, 0)))
  refine k_getR HG rfl K hq_q0 rfl (Nat.le_of_ble_eq_true rfl) rfl rfl (fun t1 => (?_ : G m _ (4, [(0, .inl (.ref q0)), (1, .inl (.int a1)), (2, .inl (.int a2))], [.inl (.ref (hr h q0 18))], h, 0, 0)))
  refine k_steps HG 1 (zB_iff.mpr (?_ : G m _ (5, [(0, .inl (.ref q0)), (1, .inl (.int a1)), (2, .inl (.int a2))], [.inl (.int a1), .inl (.ref (hr h q0 18))], h, 0, 0)))
  refine k_iald HG rfl K t1 rfl (fun _ => rfl) (?_ : G m _ (6, [(0, .inl (.ref q0)), (1, .inl (.int a1)), (2, .inl (.int a2))], [.inl (.int (hv h (hr h q0 18) a1.toNatClampNeg))], h, 0, 0))
  refine k_steps HG 2 (kb_ne (x := (hv h (hr h q0 18) a1.toNatClampNeg)) (y := (3 : Int32)) ?_ ?_)
  · show G m _ (19, [(0, .inl (.ref q0)), (1, .inl (.int a1)), (2, .inl (.int a2))], [], h, 0, 0)
    refine k_steps HG 11 (zB_iff.mpr (?_ : G m _ (37, [(3, .inl (.int (-1 : Int32))), (0, .inl (.ref q0)), (1, .inl (.int a1)), (2, .inl (.int a2))], [.inl (.int (((1 : Int32) <<< (a1 &&& 31)) ||| (0 : Int32)))], h, 0, 0)))
    exact k_reti HG rfl rfl (fun e1 e2 => hR _ e1 e2)
  · show G m _ (10, [(0, .inl (.ref q0)), (1, .inl (.int a1)), (2, .inl (.int a2))], [], h, 0, 0)
    refine k_steps HG 3 (zB_iff.mpr (?_ : G m _ (13, [(0, .inl (.ref q0)), (1, .inl (.int a1)), (2, .inl (.int a2))], [.inl (.int a2), .inl (.int a1), .inl (.ref q0)], h, 0, 0)))
    refine k_cVI HG (E' := ze_X5_brought) (Or.inl ⟨rfl, rfl⟩) hsc rfl rfl rfl rfl rfl (fun hh => x_X5_brought_6 hsc K.1 hq_q0 hh) (fun y2 => (?_ : G m _ (16, [(0, .inl (.ref q0)), (1, .inl (.int a1)), (2, .inl (.int a2))], [.inl (.int y2)], h, 0, 0)))
    refine k_steps HG 8 (kb_ne (x := y2) (y := (-1 : Int32)) ?_ ?_)
    · show G m _ (33, [(3, .inl (.int y2)), (0, .inl (.ref q0)), (1, .inl (.int a1)), (2, .inl (.int a2))], [.inl (.int ((1 : Int32) <<< (a1 &&& 31)))], h, 0, 0)
      refine k_steps HG 4 (zB_iff.mpr (?_ : G m _ (37, [(3, .inl (.int y2)), (0, .inl (.ref q0)), (1, .inl (.int a1)), (2, .inl (.int a2))], [.inl (.int (((1 : Int32) <<< (a1 &&& 31)) ||| ((1 : Int32) <<< (y2 &&& 31))))], h, 0, 0)))
      exact k_reti HG rfl rfl (fun e1 e2 => hR _ e1 e2)
    · show G m _ (29, [(3, .inl (.int y2)), (0, .inl (.ref q0)), (1, .inl (.int a1)), (2, .inl (.int a2))], [.inl (.int ((1 : Int32) <<< (a1 &&& 31)))], h, 0, 0)
      refine k_steps HG 3 (zB_iff.mpr (?_ : G m _ (37, [(3, .inl (.int y2)), (0, .inl (.ref q0)), (1, .inl (.int a1)), (2, .inl (.int a2))], [.inl (.int (((1 : Int32) <<< (a1 &&& 31)) ||| (0 : Int32)))], h, 0, 0)))
      exact k_reti HG rfl rfl (fun e1 e2 => hR _ e1 e2)
noncomputable def F_X0_hasElement (h : zH) (q0 : Nat) (a1 : Int32) : Int32 := (letf (F_X0_holdsRow h q0) (fun y1 => (if y1 = (0 : Int32) then (0 : Int32) else (letf (F_X4_isWithin a1 (0 : Int32) ((hv h q0 1) - (1 : Int32))) (fun y2 => (if y2 = (0 : Int32) then (0 : Int32) else (1 : Int32)))))))
theorem x_X0_hasElement {scr : List zV} {T : List Nat} {h : zH} {q0 : Nat} {a1 : Int32} (hsc : cT scr) (K : hOK kty T h) (hq_q0 : T[q0]? = some 0) (hh : cH h) : xI scr 22 [.inl (.ref q0), .inl (.int a1)] h (F_X0_hasElement h q0 a1) := by
  refine xI_intro (E := ze_X0_hasElement) hsc rfl (cTb_ok rfl) hh (fun d r h' G HG Pf hR m => ?_)
  have K := kOK_refl (W := []) K
  unfold F_X0_hasElement
  show G m _ (0, [(0, .inl (.ref q0)), (1, .inl (.int a1))], [], h, 0, 0)
  refine k_steps HG 1 (zB_iff.mpr (?_ : G m _ (1, [(0, .inl (.ref q0)), (1, .inl (.int a1))], [.inl (.ref q0)], h, 0, 0)))
  refine k_cVI HG (E' := ze_X0_holdsRow) (Or.inl ⟨rfl, rfl⟩) hsc rfl rfl rfl rfl rfl (fun hh => x_X0_holdsRow hsc K.1 hq_q0 hh) (fun y1 => (?_ : G m _ (4, [(0, .inl (.ref q0)), (1, .inl (.int a1))], [.inl (.int y1)], h, 0, 0)))
  refine k_steps HG 1 (kb_eq (x := y1) (y := (0 : Int32)) ?_ ?_)
  · show G m _ (25, [(0, .inl (.ref q0)), (1, .inl (.int a1))], [], h, 0, 0)
    refine k_steps HG 1 (zB_iff.mpr (?_ : G m _ (26, [(0, .inl (.ref q0)), (1, .inl (.int a1))], [.inl (.int (0 : Int32))], h, 0, 0)))
    exact k_retz HG rfl rfl (fun e1 e2 => hR _ e1 e2)
  · show G m _ (7, [(0, .inl (.ref q0)), (1, .inl (.int a1))], [], h, 0, 0)
    refine k_steps HG 3 (zB_iff.mpr (?_ : G m _ (10, [(0, .inl (.ref q0)), (1, .inl (.int a1))], [.inl (.ref q0), .inl (.int (0 : Int32)), .inl (.int a1)], h, 0, 0)))
    refine k_getI HG rfl K hq_q0 rfl (Nat.le_of_ble_eq_true rfl) rfl (?_ : G m _ (13, [(0, .inl (.ref q0)), (1, .inl (.int a1))], [.inl (.int (hv h q0 1)), .inl (.int (0 : Int32)), .inl (.int a1)], h, 0, 0))
    refine k_steps HG 2 (zB_iff.mpr (?_ : G m _ (15, [(0, .inl (.ref q0)), (1, .inl (.int a1))], [.inl (.int ((hv h q0 1) - (1 : Int32))), .inl (.int (0 : Int32)), .inl (.int a1)], h, 0, 0)))
    refine k_cSI HG (E' := ze_X4_isWithin) (Or.inr rfl) hsc rfl rfl rfl rfl (fun hh => x_X4_isWithin hsc hh) (fun y2 => (?_ : G m _ (18, [(0, .inl (.ref q0)), (1, .inl (.int a1))], [.inl (.int y2)], h, 0, 0)))
    refine k_steps HG 1 (kb_eq (x := y2) (y := (0 : Int32)) ?_ ?_)
    · show G m _ (25, [(0, .inl (.ref q0)), (1, .inl (.int a1))], [], h, 0, 0)
      refine k_steps HG 1 (zB_iff.mpr (?_ : G m _ (26, [(0, .inl (.ref q0)), (1, .inl (.int a1))], [.inl (.int (0 : Int32))], h, 0, 0)))
      exact k_retz HG rfl rfl (fun e1 e2 => hR _ e1 e2)
    · show G m _ (21, [(0, .inl (.ref q0)), (1, .inl (.int a1))], [], h, 0, 0)
      refine k_steps HG 2 (zB_iff.mpr (?_ : G m _ (26, [(0, .inl (.ref q0)), (1, .inl (.int a1))], [.inl (.int (1 : Int32))], h, 0, 0)))
      exact k_retz HG rfl rfl (fun e1 e2 => hR _ e1 e2)
noncomputable def F_X0_lackOfRow (h : zH) (q0 : Nat) : Int32 := (letf (F_X0_holdsRow h q0) (fun y1 => (if y1 = (0 : Int32) then (if (hv h q0 0) = (-1 : Int32) then (-4 : Int32) else (-3 : Int32)) else (0 : Int32))))
theorem x_X0_lackOfRow {scr : List zV} {T : List Nat} {h : zH} {q0 : Nat} (hsc : cT scr) (K : hOK kty T h) (hq_q0 : T[q0]? = some 0) (hh : cH h) : xI scr 26 [.inl (.ref q0)] h (F_X0_lackOfRow h q0) := by
  refine xI_intro (E := ze_X0_lackOfRow) hsc rfl (cTb_ok rfl) hh (fun d r h' G HG Pf hR m => ?_)
  have K := kOK_refl (W := []) K
  unfold F_X0_lackOfRow
  show G m _ (0, [(0, .inl (.ref q0))], [], h, 0, 0)
  refine k_steps HG 1 (zB_iff.mpr (?_ : G m _ (1, [(0, .inl (.ref q0))], [.inl (.ref q0)], h, 0, 0)))
  refine k_cVI HG (E' := ze_X0_holdsRow) (Or.inl ⟨rfl, rfl⟩) hsc rfl rfl rfl rfl rfl (fun hh => x_X0_holdsRow hsc K.1 hq_q0 hh) (fun y1 => (?_ : G m _ (4, [(0, .inl (.ref q0))], [.inl (.int y1)], h, 0, 0)))
  refine k_steps HG 1 (kb_eq (x := y1) (y := (0 : Int32)) ?_ ?_)
  · show G m _ (9, [(0, .inl (.ref q0))], [], h, 0, 0)
    refine k_steps HG 1 (zB_iff.mpr (?_ : G m _ (10, [(0, .inl (.ref q0))], [.inl (.ref q0)], h, 0, 0)))
    refine k_getI HG rfl K hq_q0 rfl (Nat.le_of_ble_eq_true rfl) rfl (?_ : G m _ (13, [(0, .inl (.ref q0))], [.inl (.int (hv h q0 0))], h, 0, 0))
    refine k_steps HG 2 (kb_ne (x := (hv h q0 0)) (y := (-1 : Int32)) ?_ ?_)
    · show G m _ (22, [(0, .inl (.ref q0))], [], h, 0, 0)
      refine k_steps HG 1 (zB_iff.mpr (?_ : G m _ (24, [(0, .inl (.ref q0))], [.inl (.int (-3 : Int32))], h, 0, 0)))
      exact k_reti HG rfl rfl (fun e1 e2 => hR _ e1 e2)
    · show G m _ (17, [(0, .inl (.ref q0))], [], h, 0, 0)
      refine k_steps HG 2 (zB_iff.mpr (?_ : G m _ (24, [(0, .inl (.ref q0))], [.inl (.int (-4 : Int32))], h, 0, 0)))
      exact k_reti HG rfl rfl (fun e1 e2 => hR _ e1 e2)
  · show G m _ (7, [(0, .inl (.ref q0))], [], h, 0, 0)
    refine k_steps HG 1 (zB_iff.mpr (?_ : G m _ (8, [(0, .inl (.ref q0))], [.inl (.int (0 : Int32))], h, 0, 0)))
    exact k_reti HG rfl rfl (fun e1 e2 => hR _ e1 e2)
