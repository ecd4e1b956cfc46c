def W_X4_feed : List (Nat × Nat) := [(2, 1), (18, 1000), (23, 1000)]
noncomputable def F_X4_feed (h : zH) (q0 : Nat) (a1 : Int32) : Int32 × zH := (letf (F_X4_isWithin a1 (0 : Int32) (255 : Int32)) (fun y1 => (if y1 = (0 : Int32) then (letf (F_X4_refuse h q0 (-2 : Int32)) (fun y11 => (y11.1, y11.2))) else (if (hv h (hr h q0 4) 1) < (250 : Int32) then (letf (hput h (hr h (hr h q0 4) 0) (hv h (hr h q0 4) 1).toNatClampNeg (.inl (.int a1))) (fun h6 => (letf (hput h6 (hr h6 q0 4) 1 (.inl (.int ((hv h6 (hr h6 q0 4) 1) + (1 : Int32))))) (fun h8 => ((hv h8 (hr h8 q0 4) 1), h8))))) else (letf (F_X4_refuse h q0 (-6 : Int32)) (fun y10 => (y10.1, y10.2)))))))
theorem x_X4_feed {scr : List zV} {T : List Nat} {h : zH} {q0 : Nat} {a1 : Int32} (hsc : cT scr) (K : hOK kty T h) (hq_q0 : T[q0]? = some 4) (hh : cH h) : xIH scr W_X4_feed T T 105 [.inl (.ref q0), .inl (.int a1)] h (F_X4_feed h q0 a1) := by
  refine xIH_intro (E := ze_X4_feed) hsc rfl (cTb_ok rfl) hh (fun d r h' G HG Pf hR m => ?_)
  have K := kOK_refl (W := W_X4_feed) K
  unfold F_X4_feed
  show G m _ (0, [(0, .inl (.ref q0)), (1, .inl (.int a1))], [], h, 0, 0)
  refine k_steps HG 3 (zB_iff.mpr (?_ : G m _ (5, [(0, .inl (.ref q0)), (1, .inl (.int a1))], [.inl (.int (255 : Int32)), .inl (.int (0 : Int32)), .inl (.int a1)], h, 0, 0)))
  refine k_cSI HG (E' := ze_X4_isWithin) (Or.inl rfl) hsc rfl rfl rfl rfl (fun hh => x_X4_isWithin hsc hh) (fun y1 => (?_ : G m _ (8, [(0, .inl (.ref q0)), (1, .inl (.int a1))], [.inl (.int y1)], h, 0, 0)))
  refine k_steps HG 1 (kb_ne (x := y1) (y := (0 : Int32)) ?_ ?_)
  · show G m _ (18, [(0, .inl (.ref q0)), (1, .inl (.int a1))], [], h, 0, 0)
    refine k_steps HG 1 (zB_iff.mpr (?_ : G m _ (19, [(0, .inl (.ref q0)), (1, .inl (.int a1))], [.inl (.ref q0)], h, 0, 0)))
    refine k_getR HG rfl K hq_q0 rfl (Nat.le_of_ble_eq_true rfl) rfl rfl (fun t2 => (?_ : G m _ (22, [(0, .inl (.ref q0)), (1, .inl (.int a1))], [.inl (.ref (hr h q0 4))], h, 0, 0)))
    refine k_getI HG rfl K t2 rfl (Nat.le_of_ble_eq_true rfl) rfl (?_ : G m _ (25, [(0, .inl (.ref q0)), (1, .inl (.int a1))], [.inl (.int (hv h (hr h q0 4) 1))], h, 0, 0))
    refine k_steps HG 2 (kb_lt (x := (hv h (hr h q0 4) 1)) (y := (250 : Int32)) ?_ ?_)
    · show G m _ (38, [(0, .inl (.ref q0)), (1, .inl (.int a1))], [], h, 0, 0)
      refine k_steps HG 1 (zB_iff.mpr (?_ : G m _ (39, [(0, .inl (.ref q0)), (1, .inl (.int a1))], [.inl (.ref q0)], h, 0, 0)))
      refine k_getR HG rfl K hq_q0 rfl (Nat.le_of_ble_eq_true rfl) rfl rfl (fun t3 => (?_ : G m _ (42, [(0, .inl (.ref q0)), (1, .inl (.int a1))], [.inl (.ref (hr h q0 4))], h, 0, 0)))
      refine k_getR HG rfl K t3 rfl (Nat.le_of_ble_eq_true rfl) rfl rfl (fun t4 => (?_ : G m _ (45, [(0, .inl (.ref q0)), (1, .inl (.int a1))], [.inl (.ref (hr h (hr h q0 4) 0))], h, 0, 0)))
      refine k_steps HG 1 (zB_iff.mpr (?_ : G m _ (46, [(0, .inl (.ref q0)), (1, .inl (.int a1))], [.inl (.ref q0), .inl (.ref (hr h (hr h q0 4) 0))], h, 0, 0)))
      refine k_getR HG rfl K hq_q0 rfl (Nat.le_of_ble_eq_true rfl) rfl rfl (fun t5 => (?_ : G m _ (49, [(0, .inl (.ref q0)), (1, .inl (.int a1))], [.inl (.ref (hr h q0 4)), .inl (.ref (hr h (hr h q0 4) 0))], h, 0, 0)))
      refine k_getI HG rfl K t5 rfl (Nat.le_of_ble_eq_true rfl) rfl (?_ : G m _ (52, [(0, .inl (.ref q0)), (1, .inl (.int a1))], [.inl (.int (hv h (hr h q0 4) 1)), .inl (.ref (hr h (hr h q0 4) 0))], h, 0, 0))
      refine k_steps HG 1 (zB_iff.mpr (?_ : G m _ (53, [(0, .inl (.ref q0)), (1, .inl (.int a1))], [.inl (.int a1), .inl (.int (hv h (hr h q0 4) 1)), .inl (.ref (hr h (hr h q0 4) 0))], h, 0, 0)))
      refine k_iast HG rfl K t4 rfl (fun _ => rfl) rfl (fun h6 K6 => (?_ : G m _ (54, [(0, .inl (.ref q0)), (1, .inl (.int a1))], [], h6, 0, 0)))
      refine k_steps HG 1 (zB_iff.mpr (?_ : G m _ (55, [(0, .inl (.ref q0)), (1, .inl (.int a1))], [.inl (.ref q0)], h6, 0, 0)))
      refine k_getR HG rfl K6 hq_q0 rfl (Nat.le_of_ble_eq_true rfl) rfl rfl (fun t7 => (?_ : G m _ (58, [(0, .inl (.ref q0)), (1, .inl (.int a1))], [.inl (.ref (hr h6 q0 4))], h6, 0, 0)))
      refine k_steps HG 1 (zB_iff.mpr (?_ : G m _ (59, [(0, .inl (.ref q0)), (1, .inl (.int a1))], [.inl (.ref (hr h6 q0 4)), .inl (.ref (hr h6 q0 4))], h6, 0, 0)))
      refine k_getI HG rfl K6 t7 rfl (Nat.le_of_ble_eq_true rfl) rfl (?_ : G m _ (62, [(0, .inl (.ref q0)), (1, .inl (.int a1))], [.inl (.int (hv h6 (hr h6 q0 4) 1)), .inl (.ref (hr h6 q0 4))], h6, 0, 0))
      refine k_steps HG 2 (zB_iff.mpr (?_ : G m _ (64, [(0, .inl (.ref q0)), (1, .inl (.int a1))], [.inl (.int ((hv h6 (hr h6 q0 4) 1) + (1 : Int32))), .inl (.ref (hr h6 q0 4))], h6, 0, 0)))
      refine k_putI HG rfl K6 t7 rfl rfl rfl (fun h8 K8 => (?_ : G m _ (67, [(0, .inl (.ref q0)), (1, .inl (.int a1))], [], h8, 0, 0)))
      refine k_steps HG 1 (zB_iff.mpr (?_ : G m _ (68, [(0, .inl (.ref q0)), (1, .inl (.int a1))], [.inl (.ref q0)], h8, 0, 0)))
      refine k_getR HG rfl K8 hq_q0 rfl (Nat.le_of_ble_eq_true rfl) rfl rfl (fun t9 => (?_ : G m _ (71, [(0, .inl (.ref q0)), (1, .inl (.int a1))], [.inl (.ref (hr h8 q0 4))], h8, 0, 0)))
      refine k_getI HG rfl K8 t9 rfl (Nat.le_of_ble_eq_true rfl) rfl (?_ : G m _ (74, [(0, .inl (.ref q0)), (1, .inl (.int a1))], [.inl (.int (hv h8 (hr h8 q0 4) 1))], h8, 0, 0))
      exact k_reti HG rfl rfl (fun e1 e2 => hR _ _ e1 e2 K8)
    · show G m _ (31, [(0, .inl (.ref q0)), (1, .inl (.int a1))], [], h, 0, 0)
      refine k_steps HG 2 (zB_iff.mpr (?_ : G m _ (34, [(0, .inl (.ref q0)), (1, .inl (.int a1))], [.inl (.int (-6 : Int32)), .inl (.ref q0)], h, 0, 0)))
      refine k_cVIH HG (E' := ze_X4_refuse) (Or.inl ⟨rfl, rfl⟩) hsc rfl rfl rfl rfl rfl K rfl (fun hh => x_X4_refuse hsc K.1 hq_q0 hh) (fun y10 K10 => (?_ : G m _ (37, [(0, .inl (.ref q0)), (1, .inl (.int a1))], [.inl (.int y10.1)], y10.2, 0, 0)))
      exact k_reti HG rfl rfl (fun e1 e2 => hR _ _ e1 e2 K10)
  · show G m _ (11, [(0, .inl (.ref q0)), (1, .inl (.int a1))], [], h, 0, 0)
    refine k_steps HG 2 (zB_iff.mpr (?_ : G m _ (14, [(0, .inl (.ref q0)), (1, .inl (.int a1))], [.inl (.int (-2 : Int32)), .inl (.ref q0)], h, 0, 0)))
    refine k_cVIH HG (E' := ze_X4_refuse) (Or.inl ⟨rfl, rfl⟩) hsc rfl rfl rfl rfl rfl K rfl (fun hh => x_X4_refuse hsc K.1 hq_q0 hh) (fun y11 K11 => (?_ : G m _ (17, [(0, .inl (.ref q0)), (1, .inl (.int a1))], [.inl (.int y11.1)], y11.2, 0, 0)))
    exact k_reti HG rfl rfl (fun e1 e2 => hR _ _ e1 e2 K11)
def W_X4_fondest : List (Nat × Nat) := [(23, 1000)]
noncomputable def B_X4_fondest_39 (h : zH) (c0 : Nat) (c1 : Int32) (s : (Int32 × Int32)) : (Int32 × Int32) ⊕ (Int32 × zH) := (if s.2 < (hv h (hr h c0 0) 14) then (letf (F_X1_liking h (hr h c0 0) s.2 c1) (fun y1003 => (letf (F_X1_liking h (hr h c0 0) s.1 c1) (fun y1005 => (if y1005 < y1003 then (Sum.inl (s.2, (s.2 + (1 : Int32)))) else (Sum.inl (s.1, (s.2 + (1 : Int32))))))))) else (Sum.inr (s.1, h)))
noncomputable def F_X4_fondest (h : zH) (q0 : Nat) (a1 : Int32) : Int32 × zH := (letf (F_X1_isThing h (hr h q0 0) a1) (fun y2 => (if y2 = (0 : Int32) then (letf (F_X4_refuse h q0 (-2 : Int32)) (fun y11 => (y11.1, y11.2))) else (if (hv h (hr h q0 0) 14) = (0 : Int32) then (letf (F_X4_refuse h q0 (-5 : Int32)) (fun y10 => (y10.1, y10.2))) else (fx (B_X4_fondest_39 h q0 a1) (0, []) ((0 : Int32), (1 : Int32)))))))
theorem x_X4_fondest {scr : List zV} {T : List Nat} {h : zH} {q0 : Nat} {a1 : Int32} (hsc : cT scr) (K : hOK kty T h) (hq_q0 : T[q0]? = some 4) (hh : cH h) : xIH scr W_X4_fondest T T 109 [.inl (.ref q0), .inl (.int a1)] h (F_X4_fondest h q0 a1) := by
  refine xIH_intro (E := ze_X4_fondest) hsc rfl (cTb_ok rfl) hh (fun d r h' G HG Pf hR m => ?_)
  have K := kOK_refl (W := W_X4_fondest) K
  unfold F_X4_fondest
  show G m _ (0, [(0, .inl (.ref q0)), (1, .inl (.int a1))], [], h, 0, 0)
  refine k_steps HG 1 (zB_iff.mpr (?_ : G m _ (1, [(0, .inl (.ref q0)), (1, .inl (.int a1))], [.inl (.ref q0)], h, 0, 0)))
  refine k_getR HG rfl K hq_q0 rfl (Nat.le_of_ble_eq_true rfl) rfl rfl (fun t1 => (?_ : G m _ (4, [(0, .inl (.ref q0)), (1, .inl (.int a1))], [.inl (.ref (hr h q0 0))], h, 0, 0)))
  refine k_steps HG 1 (zB_iff.mpr (?_ : G m _ (5, [(0, .inl (.ref q0)), (1, .inl (.int a1))], [.inl (.int a1), .inl (.ref (hr h q0 0))], h, 0, 0)))
  refine k_cVI HG (E' := ze_X1_isThing) (Or.inl ⟨rfl, rfl⟩) hsc rfl rfl rfl rfl rfl (fun hh => x_X1_isThing hsc K.1 t1 hh) (fun y2 => (?_ : G m _ (8, [(0, .inl (.ref q0)), (1, .inl (.int a1))], [.inl (.int y2)], h, 0, 0)))
  refine k_steps HG 1 (kb_ne (x := y2) (y := (0 : Int32)) ?_ ?_)
  · show G m _ (18, [(0, .inl (.ref q0)), (1, .inl (.int a1))], [], h, 0, 0)
    refine k_steps HG 1 (zB_iff.mpr (?_ : G m _ (19, [(0, .inl (.ref q0)), (1, .inl (.int a1))], [.inl (.ref q0)], h, 0, 0)))
    refine k_getR HG rfl K hq_q0 rfl (Nat.le_of_ble_eq_true rfl) rfl rfl (fun t3 => (?_ : G m _ (22, [(0, .inl (.ref q0)), (1, .inl (.int a1))], [.inl (.ref (hr h q0 0))], h, 0, 0)))
    refine k_getI HG rfl K t3 rfl (Nat.le_of_ble_eq_true rfl) rfl (?_ : G m _ (25, [(0, .inl (.ref q0)), (1, .inl (.int a1))], [.inl (.int (hv h (hr h q0 0) 14))], h, 0, 0))
    refine k_steps HG 1 (kb_ne (x := (hv h (hr h q0 0) 14)) (y := (0 : Int32)) ?_ ?_)
    · show G m _ (35, [(0, .inl (.ref q0)), (1, .inl (.int a1))], [], h, 0, 0)
      refine k_steps HG 4 (zB_iff.mpr (?_ : G m _ (39, [(3, .inl (.int (1 : Int32))), (2, .inl (.int (0 : Int32))), (0, .inl (.ref q0)), (1, .inl (.int a1))], [], h, 0, 0)))
      have lp4 : ∀ m4, m4 ≤ m → ∀ (v4_2 : Int32) (v4_3 : Int32), G m4 (Pf (fx (B_X4_fondest_39 h q0 a1) (0, []) (v4_2, v4_3))) (39, [(0, .inl (.ref q0)), (1, .inl (.int a1)), (2, .inl (.int v4_2)), (3, .inl (.int v4_3))], [], h, 0, 0) := by
        intro m4
        induction m4 with
        | zero =>
          intros
          exact k_zero HG
        | succ m4 ih4 =>
          intro le4 v4_2 v4_3
          have le4 := Nat.le_of_succ_le le4
          have ih4 := ih4 le4
          refine k_fx ?_
          rw [B_X4_fondest_39]
          refine k_first HG 1 (zB_iff.mpr (?_ : G m4 _ (41, [(0, .inl (.ref q0)), (1, .inl (.int a1)), (2, .inl (.int v4_2)), (3, .inl (.int v4_3))], [.inl (.ref q0), .inl (.int v4_3)], h, 0, 0)))
          refine k_getR HG rfl K hq_q0 rfl (Nat.le_of_ble_eq_true rfl) rfl rfl (fun t5 => (?_ : G m4 _ (44, [(0, .inl (.ref q0)), (1, .inl (.int a1)), (2, .inl (.int v4_2)), (3, .inl (.int v4_3))], [.inl (.ref (hr h q0 0)), .inl (.int v4_3)], h, 0, 0)))
          refine k_getI HG rfl K t5 rfl (Nat.le_of_ble_eq_true rfl) rfl (?_ : G m4 _ (47, [(0, .inl (.ref q0)), (1, .inl (.int a1)), (2, .inl (.int v4_2)), (3, .inl (.int v4_3))], [.inl (.int (hv h (hr h q0 0) 14)), .inl (.int v4_3)], h, 0, 0))
          refine k_steps HG 1 (kb_ge (x := v4_3) (y := (hv h (hr h q0 0) 14)) ?_ ?_)
          · show G m4 _ (79, [(0, .inl (.ref q0)), (1, .inl (.int a1)), (2, .inl (.int v4_2)), (3, .inl (.int v4_3))], [], h, 0, 0)
            refine k_steps HG 1 (zB_iff.mpr (?_ : G m4 _ (80, [(0, .inl (.ref q0)), (1, .inl (.int a1)), (2, .inl (.int v4_2)), (3, .inl (.int v4_3))], [.inl (.int v4_2)], h, 0, 0)))
            exact k_reti HG rfl rfl (fun e1 e2 => hR _ _ e1 e2 K)
          · show G m4 _ (50, [(0, .inl (.ref q0)), (1, .inl (.int a1)), (2, .inl (.int v4_2)), (3, .inl (.int v4_3))], [], h, 0, 0)
            refine k_steps HG 1 (zB_iff.mpr (?_ : G m4 _ (51, [(0, .inl (.ref q0)), (1, .inl (.int a1)), (2, .inl (.int v4_2)), (3, .inl (.int v4_3))], [.inl (.ref q0)], h, 0, 0)))
            refine k_getR HG rfl K hq_q0 rfl (Nat.le_of_ble_eq_true rfl) rfl rfl (fun t6 => (?_ : G m4 _ (54, [(0, .inl (.ref q0)), (1, .inl (.int a1)), (2, .inl (.int v4_2)), (3, .inl (.int v4_3))], [.inl (.ref (hr h q0 0))], h, 0, 0)))
            refine k_steps HG 2 (zB_iff.mpr (?_ : G m4 _ (56, [(0, .inl (.ref q0)), (1, .inl (.int a1)), (2, .inl (.int v4_2)), (3, .inl (.int v4_3))], [.inl (.int a1), .inl (.int v4_3), .inl (.ref (hr h q0 0))], h, 0, 0)))
            refine k_cVI HG (E' := ze_X1_liking) (Or.inl ⟨rfl, rfl⟩) hsc rfl rfl rfl rfl rfl (fun hh => x_X1_liking hsc K.1 t6 hh) (fun y7 => (?_ : G m4 _ (59, [(0, .inl (.ref q0)), (1, .inl (.int a1)), (2, .inl (.int v4_2)), (3, .inl (.int v4_3))], [.inl (.int y7)], h, 0, 0)))
            refine k_steps HG 1 (zB_iff.mpr (?_ : G m4 _ (60, [(0, .inl (.ref q0)), (1, .inl (.int a1)), (2, .inl (.int v4_2)), (3, .inl (.int v4_3))], [.inl (.ref q0), .inl (.int y7)], h, 0, 0)))
            refine k_getR HG rfl K hq_q0 rfl (Nat.le_of_ble_eq_true rfl) rfl rfl (fun t8 => (?_ : G m4 _ (63, [(0, .inl (.ref q0)), (1, .inl (.int a1)), (2, .inl (.int v4_2)), (3, .inl (.int v4_3))], [.inl (.ref (hr h q0 0)), .inl (.int y7)], h, 0, 0)))
            refine k_steps HG 2 (zB_iff.mpr (?_ : G m4 _ (65, [(0, .inl (.ref q0)), (1, .inl (.int a1)), (2, .inl (.int v4_2)), (3, .inl (.int v4_3))], [.inl (.int a1), .inl (.int v4_2), .inl (.ref (hr h q0 0)), .inl (.int y7)], h, 0, 0)))
            refine k_cVI HG (E' := ze_X1_liking) (Or.inl ⟨rfl, rfl⟩) hsc rfl rfl rfl rfl rfl (fun hh => x_X1_liking hsc K.1 t8 hh) (fun y9 => (?_ : G m4 _ (68, [(0, .inl (.ref q0)), (1, .inl (.int a1)), (2, .inl (.int v4_2)), (3, .inl (.int v4_3))], [.inl (.int y9), .inl (.int y7)], h, 0, 0)))
            refine k_steps HG 1 (kb_le (x := y7) (y := y9) ?_ ?_)
            · show G m4 _ (73, [(0, .inl (.ref q0)), (1, .inl (.int a1)), (2, .inl (.int v4_2)), (3, .inl (.int v4_3))], [], h, 0, 0)
              refine k_steps HG 2 (zB_iff.mpr (?_ : G m4 _ (39, [(3, .inl (.int (v4_3 + (1 : Int32)))), (0, .inl (.ref q0)), (1, .inl (.int a1)), (2, .inl (.int v4_2))], [], h, 0, 0)))
              refine k_ext HG (L' := [(0, .inl (.ref q0)), (1, .inl (.int a1)), (2, .inl (.int v4_2)), (3, .inl (.int (v4_3 + (1 : Int32))))]) rfl rfl ⟨rfl, rfl, rfl, rfl, trivial⟩ ?_
              exact ih4 _ _
            · show G m4 _ (71, [(0, .inl (.ref q0)), (1, .inl (.int a1)), (2, .inl (.int v4_2)), (3, .inl (.int v4_3))], [], h, 0, 0)
              refine k_steps HG 4 (zB_iff.mpr (?_ : G m4 _ (39, [(3, .inl (.int (v4_3 + (1 : Int32)))), (2, .inl (.int v4_3)), (0, .inl (.ref q0)), (1, .inl (.int a1))], [], h, 0, 0)))
              refine k_ext HG (L' := [(0, .inl (.ref q0)), (1, .inl (.int a1)), (2, .inl (.int v4_3)), (3, .inl (.int (v4_3 + (1 : Int32))))]) rfl rfl ⟨rfl, rfl, rfl, rfl, trivial⟩ ?_
              exact ih4 _ _
      refine k_ext HG (L' := [(0, .inl (.ref q0)), (1, .inl (.int a1)), (2, .inl (.int (0 : Int32))), (3, .inl (.int (1 : Int32)))]) rfl rfl ⟨rfl, rfl, rfl, rfl, trivial⟩ ?_
      exact lp4 m (Nat.le_refl _) _ _
    · show G m _ (28, [(0, .inl (.ref q0)), (1, .inl (.int a1))], [], h, 0, 0)
      refine k_steps HG 2 (zB_iff.mpr (?_ : G m _ (31, [(0, .inl (.ref q0)), (1, .inl (.int a1))], [.inl (.int (-5 : Int32)), .inl (.ref q0)], h, 0, 0)))
      refine k_cVIH HG (E' := ze_X4_refuse) (Or.inl ⟨rfl, rfl⟩) hsc rfl rfl rfl rfl rfl K rfl (fun hh => x_X4_refuse hsc K.1 hq_q0 hh) (fun y10 K10 => (?_ : G m _ (34, [(0, .inl (.ref q0)), (1, .inl (.int a1))], [.inl (.int y10.1)], y10.2, 0, 0)))
      exact k_reti HG rfl rfl (fun e1 e2 => hR _ _ e1 e2 K10)
  · show G m _ (11, [(0, .inl (.ref q0)), (1, .inl (.int a1))], [], h, 0, 0)
    refine k_steps HG 2 (zB_iff.mpr (?_ : G m _ (14, [(0, .inl (.ref q0)), (1, .inl (.int a1))], [.inl (.int (-2 : Int32)), .inl (.ref q0)], h, 0, 0)))
    refine k_cVIH HG (E' := ze_X4_refuse) (Or.inl ⟨rfl, rfl⟩) hsc rfl rfl rfl rfl rfl K rfl (fun hh => x_X4_refuse hsc K.1 hq_q0 hh) (fun y11 K11 => (?_ : G m _ (17, [(0, .inl (.ref q0)), (1, .inl (.int a1))], [.inl (.int y11.1)], y11.2, 0, 0)))
    exact k_reti HG rfl rfl (fun e1 e2 => hR _ _ e1 e2 K11)
noncomputable def F_X4_full (h : zH) (q0 : Nat) : Int32 := (letf (F_X1_countIn h (hr h q0 0)) (fun y3 => (letf (F_X1_quartersOf h (hr h q0 0) y3) (fun y4 => y4))))
theorem x_X4_full {scr : List zV} {T : List Nat} {h : zH} {q0 : Nat} (hsc : cT scr) (K : hOK kty T h) (hq_q0 : T[q0]? = some 4) (hh : cH h) : xI scr 110 [.inl (.ref q0)] h (F_X4_full h q0) := by
  refine xI_intro (E := ze_X4_full) hsc rfl (cTb_ok rfl) hh (fun d r h' G HG Pf hR m => ?_)
  have K := kOK_refl (W := []) K
  unfold F_X4_full
  show G m _ (0, [(0, .inl (.ref q0))], [], h, 0, 0)
  refine k_steps HG 1 (zB_iff.mpr (?_ : G m _ (1, [(0, .inl (.ref q0))], [.inl (.ref q0)], h, 0, 0)))
  refine k_getR HG rfl K hq_q0 rfl (Nat.le_of_ble_eq_true rfl) rfl rfl (fun t1 => (?_ : G m _ (4, [(0, .inl (.ref q0))], [.inl (.ref (hr h q0 0))], h, 0, 0)))
  refine k_steps HG 1 (zB_iff.mpr (?_ : G m _ (5, [(0, .inl (.ref q0))], [.inl (.ref q0), .inl (.ref (hr h q0 0))], h, 0, 0)))
  refine k_getR HG rfl K hq_q0 rfl (Nat.le_of_ble_eq_true rfl) rfl rfl (fun t2 => (?_ : G m _ (8, [(0, .inl (.ref q0))], [.inl (.ref (hr h q0 0)), .inl (.ref (hr h q0 0))], h, 0, 0)))
  refine k_cVI HG (E' := ze_X1_countIn) (Or.inl ⟨rfl, rfl⟩) hsc rfl rfl rfl rfl rfl (fun hh => x_X1_countIn hsc K.1 t2 hh) (fun y3 => (?_ : G m _ (11, [(0, .inl (.ref q0))], [.inl (.int y3), .inl (.ref (hr h q0 0))], h, 0, 0)))
  refine k_cVI HG (E' := ze_X1_quartersOf) (Or.inl ⟨rfl, rfl⟩) hsc rfl rfl rfl rfl rfl (fun hh => x_X1_quartersOf hsc K.1 t2 hh) (fun y4 => (?_ : G m _ (14, [(0, .inl (.ref q0))], [.inl (.int y4)], h, 0, 0)))
  exact k_reti HG rfl rfl (fun e1 e2 => hR _ e1 e2)
def W_X4_guess : List (Nat × Nat) := [(23, 1000)]
noncomputable def B_X4_guess_30 (h : zH) (c0 : Nat) (c1 : Int32) (c2 : Int32) (s : (Int32 × Int32)) : (Int32 × Int32) ⊕ (Int32 × zH) := (if (hv h (hr h c0 0) 0) < s.2 then (if s.1 = (-1 : Int32) then (letf (F_X4_refuse h c0 (-5 : Int32)) (fun y1002 => (Sum.inr (y1002.1, y1002.2)))) else (Sum.inr (s.1, h))) else (letf (F_X1_quartersOf h (hr h c0 0) s.2) (fun y1004 => (if y1004 = c1 then (if s.1 = (-1 : Int32) then (Sum.inl (s.2, (s.2 + (1 : Int32)))) else (if c2 = (1 : Int32) then (Sum.inl (s.2, (s.2 + (1 : Int32)))) else (Sum.inl (s.1, (s.2 + (1 : Int32)))))) else (Sum.inl (s.1, (s.2 + (1 : Int32))))))))
noncomputable def F_X4_guess (h : zH) (q0 : Nat) (a1 : Int32) (a2 : Int32) : Int32 × zH := (letf (F_X4_isWithin a1 (0 : Int32) (4 : Int32)) (fun y1 => (if y1 = (0 : Int32) then (letf (F_X4_refuse h q0 (-2 : Int32)) (fun y2 => (y2.1, y2.2))) else (letf (F_X4_isWithin a2 (0 : Int32) (1 : Int32)) (fun y3 => (if y3 = (0 : Int32) then (letf (F_X4_refuse h q0 (-2 : Int32)) (fun y9 => (y9.1, y9.2))) else (fx (B_X4_guess_30 h q0 a1 a2) (0, []) ((-1 : Int32), (0 : Int32)))))))))
theorem x_X4_guess {scr : List zV} {T : List Nat} {h : zH} {q0 : Nat} {a1 : Int32} {a2 : Int32} (hsc : cT scr) (K : hOK kty T h) (hq_q0 : T[q0]? = some 4) (hh : cH h) : xIH scr W_X4_guess T T 112 [.inl (.ref q0), .inl (.int a1), .inl (.int a2)] h (F_X4_guess h q0 a1 a2) := by
  refine xIH_intro (E := ze_X4_guess) hsc rfl (cTb_ok rfl) hh (fun d r h' G HG Pf hR m => ?_)
  have K := kOK_refl (W := W_X4_guess) K
  unfold F_X4_guess
  show G m _ (0, [(0, .inl (.ref q0)), (1, .inl (.int a1)), (2, .inl (.int a2))], [], h, 0, 0)
  refine k_steps HG 3 (zB_iff.mpr (?_ : G m _ (3, [(0, .inl (.ref q0)), (1, .inl (.int a1)), (2, .inl (.int a2))], [.inl (.int (4 : Int32)), .inl (.int (0 : Int32)), .inl (.int a1)], h, 0, 0)))
  refine k_cSI HG (E' := ze_X4_isWithin) (Or.inl rfl) hsc rfl rfl rfl rfl (fun hh => x_X4_isWithin hsc hh) (fun y1 => (?_ : G m _ (6, [(0, .inl (.ref q0)), (1, .inl (.int a1)), (2, .inl (.int a2))], [.inl (.int y1)], h, 0, 0)))
  refine k_steps HG 1 (kb_eq (x := y1) (y := (0 : Int32)) ?_ ?_)
  · show G m _ (18, [(0, .inl (.ref q0)), (1, .inl (.int a1)), (2, .inl (.int a2))], [], h, 0, 0)
    refine k_steps HG 2 (zB_iff.mpr (?_ : G m _ (21, [(0, .inl (.ref q0)), (1, .inl (.int a1)), (2, .inl (.int a2))], [.inl (.int (-2 : Int32)), .inl (.ref q0)], h, 0, 0)))
    refine k_cVIH HG (E' := ze_X4_refuse) (Or.inl ⟨rfl, rfl⟩) hsc rfl rfl rfl rfl rfl K rfl (fun hh => x_X4_refuse hsc K.1 hq_q0 hh) (fun y2 K2 => (?_ : G m _ (24, [(0, .inl (.ref q0)), (1, .inl (.int a1)), (2, .inl (.int a2))], [.inl (.int y2.1)], y2.2, 0, 0)))
    exact k_reti HG rfl rfl (fun e1 e2 => hR _ _ e1 e2 K2)
  · show G m _ (9, [(0, .inl (.ref q0)), (1, .inl (.int a1)), (2, .inl (.int a2))], [], h, 0, 0)
    refine k_steps HG 3 (zB_iff.mpr (?_ : G m _ (12, [(0, .inl (.ref q0)), (1, .inl (.int a1)), (2, .inl (.int a2))], [.inl (.int (1 : Int32)), .inl (.int (0 : Int32)), .inl (.int a2)], h, 0, 0)))
    refine k_cSI HG (E' := ze_X4_isWithin) (Or.inl rfl) hsc rfl rfl rfl rfl (fun hh => x_X4_isWithin hsc hh) (fun y3 => (?_ : G m _ (15, [(0, .inl (.ref q0)), (1, .inl (.int a1)), (2, .inl (.int a2))], [.inl (.int y3)], h, 0, 0)))
    refine k_steps HG 1 (kb_ne (x := y3) (y := (0 : Int32)) ?_ ?_)
    · show G m _ (25, [(0, .inl (.ref q0)), (1, .inl (.int a1)), (2, .inl (.int a2))], [], h, 0, 0)
      refine k_steps HG 4 (zB_iff.mpr (?_ : G m _ (30, [(4, .inl (.int (0 : Int32))), (3, .inl (.int (-1 : Int32))), (0, .inl (.ref q0)), (1, .inl (.int a1)), (2, .inl (.int a2))], [], h, 0, 0)))
      have lp4 : ∀ m4, m4 ≤ m → ∀ (d4_5 : Int32) (v4_3 : Int32) (v4_4 : Int32), G m4 (Pf (fx (B_X4_guess_30 h q0 a1 a2) (0, []) (v4_3, v4_4))) (30, [(0, .inl (.ref q0)), (1, .inl (.int a1)), (2, .inl (.int a2)), (3, .inl (.int v4_3)), (4, .inl (.int v4_4)), (5, .inl (.int d4_5))], [], h, 0, 0) := by
        intro m4
        induction m4 with
        | zero =>
          intros
          exact k_zero HG
        | succ m4 ih4 =>
          intro le4 d4_5 v4_3 v4_4
          have le4 := Nat.le_of_succ_le le4
          have ih4 := ih4 le4
          refine k_fx ?_
          rw [B_X4_guess_30]
          refine k_first HG 1 (zB_iff.mpr (?_ : G m4 _ (33, [(0, .inl (.ref q0)), (1, .inl (.int a1)), (2, .inl (.int a2)), (3, .inl (.int v4_3)), (4, .inl (.int v4_4)), (5, .inl (.int d4_5))], [.inl (.ref q0), .inl (.int v4_4)], h, 0, 0)))
          refine k_getR HG rfl K hq_q0 rfl (Nat.le_of_ble_eq_true rfl) rfl rfl (fun t5 => (?_ : G m4 _ (36, [(0, .inl (.ref q0)), (1, .inl (.int a1)), (2, .inl (.int a2)), (3, .inl (.int v4_3)), (4, .inl (.int v4_4)), (5, .inl (.int d4_5))], [.inl (.ref (hr h q0 0)), .inl (.int v4_4)], h, 0, 0)))
          refine k_getI HG rfl K t5 rfl (Nat.le_of_ble_eq_true rfl) rfl (?_ : G m4 _ (39, [(0, .inl (.ref q0)), (1, .inl (.int a1)), (2, .inl (.int a2)), (3, .inl (.int v4_3)), (4, .inl (.int v4_4)), (5, .inl (.int d4_5))], [.inl (.int (hv h (hr h q0 0) 0)), .inl (.int v4_4)], h, 0, 0))
          refine k_steps HG 1 (kb_gt (x := v4_4) (y := (hv h (hr h q0 0) 0)) ?_ ?_)
          · show G m4 _ (86, [(0, .inl (.ref q0)), (1, .inl (.int a1)), (2, .inl (.int a2)), (3, .inl (.int v4_3)), (4, .inl (.int v4_4)), (5, .inl (.int d4_5))], [], h, 0, 0)
            refine k_steps HG 3 (kb_ne (x := v4_3) (y := (-1 : Int32)) ?_ ?_)
            · show G m4 _ (100, [(0, .inl (.ref q0)), (1, .inl (.int a1)), (2, .inl (.int a2)), (3, .inl (.int v4_3)), (4, .inl (.int v4_4)), (5, .inl (.int d4_5))], [], h, 0, 0)
              refine k_steps HG 1 (zB_iff.mpr (?_ : G m4 _ (101, [(0, .inl (.ref q0)), (1, .inl (.int a1)), (2, .inl (.int a2)), (3, .inl (.int v4_3)), (4, .inl (.int v4_4)), (5, .inl (.int d4_5))], [.inl (.int v4_3)], h, 0, 0)))
              exact k_reti HG rfl rfl (fun e1 e2 => hR _ _ e1 e2 K)
            · show G m4 _ (91, [(0, .inl (.ref q0)), (1, .inl (.int a1)), (2, .inl (.int a2)), (3, .inl (.int v4_3)), (4, .inl (.int v4_4)), (5, .inl (.int d4_5))], [], h, 0, 0)
              refine k_steps HG 2 (zB_iff.mpr (?_ : G m4 _ (94, [(0, .inl (.ref q0)), (1, .inl (.int a1)), (2, .inl (.int a2)), (3, .inl (.int v4_3)), (4, .inl (.int v4_4)), (5, .inl (.int d4_5))], [.inl (.int (-5 : Int32)), .inl (.ref q0)], h, 0, 0)))
              refine k_cVIH HG (E' := ze_X4_refuse) (Or.inl ⟨rfl, rfl⟩) hsc rfl rfl rfl rfl rfl K rfl (fun hh => x_X4_refuse hsc K.1 hq_q0 hh) (fun y6 K6 => (?_ : G m4 _ (97, [(0, .inl (.ref q0)), (1, .inl (.int a1)), (2, .inl (.int a2)), (3, .inl (.int v4_3)), (4, .inl (.int v4_4)), (5, .inl (.int d4_5))], [.inl (.int y6.1)], y6.2, 0, 0)))
              refine k_steps HG 1 (zB_iff.mpr (?_ : G m4 _ (101, [(0, .inl (.ref q0)), (1, .inl (.int a1)), (2, .inl (.int a2)), (3, .inl (.int v4_3)), (4, .inl (.int v4_4)), (5, .inl (.int d4_5))], [.inl (.int y6.1)], y6.2, 0, 0)))
              exact k_reti HG rfl rfl (fun e1 e2 => hR _ _ e1 e2 K6)
          · show G m4 _ (42, [(0, .inl (.ref q0)), (1, .inl (.int a1)), (2, .inl (.int a2)), (3, .inl (.int v4_3)), (4, .inl (.int v4_4)), (5, .inl (.int d4_5))], [], h, 0, 0)
            refine k_steps HG 1 (zB_iff.mpr (?_ : G m4 _ (43, [(0, .inl (.ref q0)), (1, .inl (.int a1)), (2, .inl (.int a2)), (3, .inl (.int v4_3)), (4, .inl (.int v4_4)), (5, .inl (.int d4_5))], [.inl (.ref q0)], h, 0, 0)))
            refine k_getR HG rfl K hq_q0 rfl (Nat.le_of_ble_eq_true rfl) rfl rfl (fun t7 => (?_ : G m4 _ (46, [(0, .inl (.ref q0)), (1, .inl (.int a1)), (2, .inl (.int a2)), (3, .inl (.int v4_3)), (4, .inl (.int v4_4)), (5, .inl (.int d4_5))], [.inl (.ref (hr h q0 0))], h, 0, 0)))
            refine k_steps HG 1 (zB_iff.mpr (?_ : G m4 _ (48, [(0, .inl (.ref q0)), (1, .inl (.int a1)), (2, .inl (.int a2)), (3, .inl (.int v4_3)), (4, .inl (.int v4_4)), (5, .inl (.int d4_5))], [.inl (.int v4_4), .inl (.ref (hr h q0 0))], h, 0, 0)))
            refine k_cVI HG (E' := ze_X1_quartersOf) (Or.inl ⟨rfl, rfl⟩) hsc rfl rfl rfl rfl rfl (fun hh => x_X1_quartersOf hsc K.1 t7 hh) (fun y8 => (?_ : G m4 _ (51, [(0, .inl (.ref q0)), (1, .inl (.int a1)), (2, .inl (.int a2)), (3, .inl (.int v4_3)), (4, .inl (.int v4_4)), (5, .inl (.int d4_5))], [.inl (.int y8)], h, 0, 0)))
            refine k_steps HG 2 (kb_ne (x := y8) (y := a1) ?_ ?_)
            · show G m4 _ (59, [(0, .inl (.ref q0)), (1, .inl (.int a1)), (2, .inl (.int a2)), (3, .inl (.int v4_3)), (4, .inl (.int v4_4)), (5, .inl (.int d4_5))], [], h, 0, 0)
              refine k_steps HG 6 (zB_iff.mpr (?_ : G m4 _ (30, [(4, .inl (.int (v4_4 + (1 : Int32)))), (5, .inl (.int (0 : Int32))), (0, .inl (.ref q0)), (1, .inl (.int a1)), (2, .inl (.int a2)), (3, .inl (.int v4_3))], [], h, 0, 0)))
              refine k_ext HG (L' := [(0, .inl (.ref q0)), (1, .inl (.int a1)), (2, .inl (.int a2)), (3, .inl (.int v4_3)), (4, .inl (.int (v4_4 + (1 : Int32)))), (5, .inl (.int (0 : Int32)))]) rfl rfl ⟨rfl, rfl, rfl, rfl, rfl, rfl, trivial⟩ ?_
              exact ih4 _ _ _
            · show G m4 _ (55, [(0, .inl (.ref q0)), (1, .inl (.int a1)), (2, .inl (.int a2)), (3, .inl (.int v4_3)), (4, .inl (.int v4_4)), (5, .inl (.int d4_5))], [], h, 0, 0)
              refine k_steps HG 8 (kb_eq (x := v4_3) (y := (-1 : Int32)) ?_ ?_)
              · show G m4 _ (77, [(5, .inl (.int (1 : Int32))), (0, .inl (.ref q0)), (1, .inl (.int a1)), (2, .inl (.int a2)), (3, .inl (.int v4_3)), (4, .inl (.int v4_4))], [], h, 0, 0)
                refine k_steps HG 4 (zB_iff.mpr (?_ : G m4 _ (30, [(4, .inl (.int (v4_4 + (1 : Int32)))), (3, .inl (.int v4_4)), (5, .inl (.int (1 : Int32))), (0, .inl (.ref q0)), (1, .inl (.int a1)), (2, .inl (.int a2))], [], h, 0, 0)))
                refine k_ext HG (L' := [(0, .inl (.ref q0)), (1, .inl (.int a1)), (2, .inl (.int a2)), (3, .inl (.int v4_4)), (4, .inl (.int (v4_4 + (1 : Int32)))), (5, .inl (.int (1 : Int32)))]) rfl rfl ⟨rfl, rfl, rfl, rfl, rfl, rfl, trivial⟩ ?_
                exact ih4 _ _ _
              · show G m4 _ (72, [(5, .inl (.int (1 : Int32))), (0, .inl (.ref q0)), (1, .inl (.int a1)), (2, .inl (.int a2)), (3, .inl (.int v4_3)), (4, .inl (.int v4_4))], [], h, 0, 0)
                refine k_steps HG 3 (kb_ne (x := a2) (y := (1 : Int32)) ?_ ?_)
                · show G m4 _ (80, [(5, .inl (.int (1 : Int32))), (0, .inl (.ref q0)), (1, .inl (.int a1)), (2, .inl (.int a2)), (3, .inl (.int v4_3)), (4, .inl (.int v4_4))], [], h, 0, 0)
                  refine k_steps HG 2 (zB_iff.mpr (?_ : G m4 _ (30, [(4, .inl (.int (v4_4 + (1 : Int32)))), (5, .inl (.int (1 : Int32))), (0, .inl (.ref q0)), (1, .inl (.int a1)), (2, .inl (.int a2)), (3, .inl (.int v4_3))], [], h, 0, 0)))
                  refine k_ext HG (L' := [(0, .inl (.ref q0)), (1, .inl (.int a1)), (2, .inl (.int a2)), (3, .inl (.int v4_3)), (4, .inl (.int (v4_4 + (1 : Int32)))), (5, .inl (.int (1 : Int32)))]) rfl rfl ⟨rfl, rfl, rfl, rfl, rfl, rfl, trivial⟩ ?_
                  exact ih4 _ _ _
                · show G m4 _ (77, [(5, .inl (.int (1 : Int32))), (0, .inl (.ref q0)), (1, .inl (.int a1)), (2, .inl (.int a2)), (3, .inl (.int v4_3)), (4, .inl (.int v4_4))], [], h, 0, 0)
                  refine k_steps HG 4 (zB_iff.mpr (?_ : G m4 _ (30, [(4, .inl (.int (v4_4 + (1 : Int32)))), (3, .inl (.int v4_4)), (5, .inl (.int (1 : Int32))), (0, .inl (.ref q0)), (1, .inl (.int a1)), (2, .inl (.int a2))], [], h, 0, 0)))
                  refine k_ext HG (L' := [(0, .inl (.ref q0)), (1, .inl (.int a1)), (2, .inl (.int a2)), (3, .inl (.int v4_4)), (4, .inl (.int (v4_4 + (1 : Int32)))), (5, .inl (.int (1 : Int32)))]) rfl rfl ⟨rfl, rfl, rfl, rfl, rfl, rfl, trivial⟩ ?_
                  exact ih4 _ _ _
      refine k_ext HG (L' := [(0, .inl (.ref q0)), (1, .inl (.int a1)), (2, .inl (.int a2)), (3, .inl (.int (-1 : Int32))), (4, .inl (.int (0 : Int32))), (5, .inl (.int (0 : Int32)))]) rfl rfl ⟨rfl, rfl, rfl, rfl, rfl, trivial⟩ ?_
      exact lp4 m (Nat.le_refl _) _ _ _
    · show G m _ (18, [(0, .inl (.ref q0)), (1, .inl (.int a1)), (2, .inl (.int a2))], [], h, 0, 0)
      refine k_steps HG 2 (zB_iff.mpr (?_ : G m _ (21, [(0, .inl (.ref q0)), (1, .inl (.int a1)), (2, .inl (.int a2))], [.inl (.int (-2 : Int32)), .inl (.ref q0)], h, 0, 0)))
      refine k_cVIH HG (E' := ze_X4_refuse) (Or.inl ⟨rfl, rfl⟩) hsc rfl rfl rfl rfl rfl K rfl (fun hh => x_X4_refuse hsc K.1 hq_q0 hh) (fun y9 K9 => (?_ : G m _ (24, [(0, .inl (.ref q0)), (1, .inl (.int a1)), (2, .inl (.int a2))], [.inl (.int y9.1)], y9.2, 0, 0)))
      exact k_reti HG rfl rfl (fun e1 e2 => hR _ _ e1 e2 K9)
noncomputable def F_X4_holds (h : zH) (q0 : Nat) (a1 : Int32) : Int32 := (letf (F_X4_isShelf a1) (fun y1 => (if y1 = (0 : Int32) then (-1 : Int32) else (hv h (hr h (hr h q0 5) a1.toNatClampNeg) 0))))
theorem x_X4_holds {scr : List zV} {T : List Nat} {h : zH} {q0 : Nat} {a1 : Int32} (hsc : cT scr) (K : hOK kty T h) (hq_q0 : T[q0]? = some 4) (hh : cH h) : xI scr 113 [.inl (.ref q0), .inl (.int a1)] h (F_X4_holds h q0 a1) := by
  refine xI_intro (E := ze_X4_holds) hsc rfl (cTb_ok rfl) hh (fun d r h' G HG Pf hR m => ?_)
  have K := kOK_refl (W := []) K
  unfold F_X4_holds
  show G m _ (0, [(0, .inl (.ref q0)), (1, .inl (.int a1))], [], h, 0, 0)
  refine k_steps HG 1 (zB_iff.mpr (?_ : G m _ (1, [(0, .inl (.ref q0)), (1, .inl (.int a1))], [.inl (.int a1)], h, 0, 0)))
  refine k_cSI HG (E' := ze_X4_isShelf) (Or.inl rfl) hsc rfl rfl rfl rfl (fun hh => x_X4_isShelf hsc hh) (fun y1 => (?_ : G m _ (4, [(0, .inl (.ref q0)), (1, .inl (.int a1))], [.inl (.int y1)], h, 0, 0)))
  refine k_steps HG 1 (kb_eq (x := y1) (y := (0 : Int32)) ?_ ?_)
  · show G m _ (19, [(0, .inl (.ref q0)), (1, .inl (.int a1))], [], h, 0, 0)
    refine k_steps HG 1 (zB_iff.mpr (?_ : G m _ (20, [(0, .inl (.ref q0)), (1, .inl (.int a1))], [.inl (.int (-1 : Int32))], h, 0, 0)))
    exact k_reti HG rfl rfl (fun e1 e2 => hR _ e1 e2)
  · show G m _ (7, [(0, .inl (.ref q0)), (1, .inl (.int a1))], [], h, 0, 0)
    refine k_steps HG 1 (zB_iff.mpr (?_ : G m _ (8, [(0, .inl (.ref q0)), (1, .inl (.int a1))], [.inl (.ref q0)], h, 0, 0)))
    refine k_getR HG rfl K hq_q0 rfl (Nat.le_of_ble_eq_true rfl) rfl rfl (fun t2 => (?_ : G m _ (11, [(0, .inl (.ref q0)), (1, .inl (.int a1))], [.inl (.ref (hr h q0 5))], h, 0, 0)))
    refine k_steps HG 1 (zB_iff.mpr (?_ : G m _ (12, [(0, .inl (.ref q0)), (1, .inl (.int a1))], [.inl (.int a1), .inl (.ref (hr h q0 5))], h, 0, 0)))
    refine k_aald HG rfl K t2 (fun _ => ⟨rfl, rfl⟩) (fun t3 => (?_ : G m _ (13, [(0, .inl (.ref q0)), (1, .inl (.int a1))], [.inl (.ref (hr h (hr h q0 5) a1.toNatClampNeg))], h, 0, 0)))
    refine k_getI HG rfl K t3 rfl (Nat.le_of_ble_eq_true rfl) rfl (?_ : G m _ (16, [(0, .inl (.ref q0)), (1, .inl (.int a1))], [.inl (.int (hv h (hr h (hr h q0 5) a1.toNatClampNeg) 0))], h, 0, 0))
    refine k_steps HG 1 (zB_iff.mpr (?_ : G m _ (20, [(0, .inl (.ref q0)), (1, .inl (.int a1))], [.inl (.int (hv h (hr h (hr h q0 5) a1.toNatClampNeg) 0))], h, 0, 0)))
    exact k_reti HG rfl rfl (fun e1 e2 => hR _ e1 e2)
def W_X4_left : List (Nat × Nat) := [(23, 1000)]
noncomputable def F_X4_left (h : zH) (q0 : Nat) (a1 : Int32) : Int32 × zH := (letf (F_X1_countIn h (hr h q0 0)) (fun y2 => (letf (F_X4_isWithin a1 (0 : Int32) y2) (fun y3 => (if y3 = (0 : Int32) then (letf (F_X4_refuse h q0 (-2 : Int32)) (fun y12 => (y12.1, y12.2))) else (letf (F_X1_standing h (hr h q0 0)) (fun y5 => (letf (F_X1_thingsUnder h (hr h q0 0) (4 : Int32)) (fun y7 => (letf (F_X1_thingsUnder h (hr h q0 0) (3 : Int32)) (fun y9 => (if (y5 &&& (y7 ||| y9)) = (0 : Int32) then (if y2 = (0 : Int32) then ((0 : Int32), h) else (letf (F_J6_bitCount_0f7a4 y5) (fun y10 => (((((1000 : Int32) * y10) * (y2 - a1)) / y2), h)))) else (letf (F_X4_refuse h q0 (-5 : Int32)) (fun y11 => (y11.1, y11.2)))))))))))))))
theorem x_X4_left {scr : List zV} {T : List Nat} {h : zH} {q0 : Nat} {a1 : Int32} (hsc : cT scr) (K : hOK kty T h) (hq_q0 : T[q0]? = some 4) (hh : cH h) : xIH scr W_X4_left T T 119 [.inl (.ref q0), .inl (.int a1)] h (F_X4_left h q0 a1) := by
  refine xIH_intro (E := ze_X4_left) hsc rfl (cTb_ok rfl) hh (fun d r h' G HG Pf hR m => ?_)
  have K := kOK_refl (W := W_X4_left) K
  unfold F_X4_left
  show G m _ (0, [(0, .inl (.ref q0)), (1, .inl (.int a1))], [], h, 0, 0)
  refine k_steps HG 1 (zB_iff.mpr (?_ : G m _ (1, [(0, .inl (.ref q0)), (1, .inl (.int a1))], [.inl (.ref q0)], h, 0, 0)))
  refine k_getR HG rfl K hq_q0 rfl (Nat.le_of_ble_eq_true rfl) rfl rfl (fun t1 => (?_ : G m _ (4, [(0, .inl (.ref q0)), (1, .inl (.int a1))], [.inl (.ref (hr h q0 0))], h, 0, 0)))
  refine k_cVI HG (E' := ze_X1_countIn) (Or.inl ⟨rfl, rfl⟩) hsc rfl rfl rfl rfl rfl (fun hh => x_X1_countIn hsc K.1 t1 hh) (fun y2 => (?_ : G m _ (7, [(0, .inl (.ref q0)), (1, .inl (.int a1))], [.inl (.int y2)], h, 0, 0)))
  refine k_steps HG 4 (zB_iff.mpr (?_ : G m _ (11, [(2, .inl (.int y2)), (0, .inl (.ref q0)), (1, .inl (.int a1))], [.inl (.int y2), .inl (.int (0 : Int32)), .inl (.int a1)], h, 0, 0)))
  refine k_cSI HG (E' := ze_X4_isWithin) (Or.inl rfl) hsc rfl rfl rfl rfl (fun hh => x_X4_isWithin hsc hh) (fun y3 => (?_ : G m _ (14, [(2, .inl (.int y2)), (0, .inl (.ref q0)), (1, .inl (.int a1))], [.inl (.int y3)], h, 0, 0)))
  refine k_steps HG 1 (kb_ne (x := y3) (y := (0 : Int32)) ?_ ?_)
  · show G m _ (24, [(2, .inl (.int y2)), (0, .inl (.ref q0)), (1, .inl (.int a1))], [], h, 0, 0)
    refine k_steps HG 1 (zB_iff.mpr (?_ : G m _ (25, [(2, .inl (.int y2)), (0, .inl (.ref q0)), (1, .inl (.int a1))], [.inl (.ref q0)], h, 0, 0)))
    refine k_getR HG rfl K hq_q0 rfl (Nat.le_of_ble_eq_true rfl) rfl rfl (fun t4 => (?_ : G m _ (28, [(2, .inl (.int y2)), (0, .inl (.ref q0)), (1, .inl (.int a1))], [.inl (.ref (hr h q0 0))], h, 0, 0)))
    refine k_cVI HG (E' := ze_X1_standing) (Or.inl ⟨rfl, rfl⟩) hsc rfl rfl rfl rfl rfl (fun hh => x_X1_standing hsc K.1 t4 hh) (fun y5 => (?_ : G m _ (31, [(2, .inl (.int y2)), (0, .inl (.ref q0)), (1, .inl (.int a1))], [.inl (.int y5)], h, 0, 0)))
    refine k_steps HG 3 (zB_iff.mpr (?_ : G m _ (34, [(3, .inl (.int y5)), (2, .inl (.int y2)), (0, .inl (.ref q0)), (1, .inl (.int a1))], [.inl (.ref q0), .inl (.int y5)], h, 0, 0)))
    refine k_getR HG rfl K hq_q0 rfl (Nat.le_of_ble_eq_true rfl) rfl rfl (fun t6 => (?_ : G m _ (37, [(3, .inl (.int y5)), (2, .inl (.int y2)), (0, .inl (.ref q0)), (1, .inl (.int a1))], [.inl (.ref (hr h q0 0)), .inl (.int y5)], h, 0, 0)))
    refine k_steps HG 1 (zB_iff.mpr (?_ : G m _ (38, [(3, .inl (.int y5)), (2, .inl (.int y2)), (0, .inl (.ref q0)), (1, .inl (.int a1))], [.inl (.int (4 : Int32)), .inl (.ref (hr h q0 0)), .inl (.int y5)], h, 0, 0)))
    refine k_cVI HG (E' := ze_X1_thingsUnder) (Or.inl ⟨rfl, rfl⟩) hsc rfl rfl rfl rfl rfl (fun hh => x_X1_thingsUnder hsc K.1 t6 hh) (fun y7 => (?_ : G m _ (41, [(3, .inl (.int y5)), (2, .inl (.int y2)), (0, .inl (.ref q0)), (1, .inl (.int a1))], [.inl (.int y7), .inl (.int y5)], h, 0, 0)))
    refine k_steps HG 1 (zB_iff.mpr (?_ : G m _ (42, [(3, .inl (.int y5)), (2, .inl (.int y2)), (0, .inl (.ref q0)), (1, .inl (.int a1))], [.inl (.ref q0), .inl (.int y7), .inl (.int y5)], h, 0, 0)))
    refine k_getR HG rfl K hq_q0 rfl (Nat.le_of_ble_eq_true rfl) rfl rfl (fun t8 => (?_ : G m _ (45, [(3, .inl (.int y5)), (2, .inl (.int y2)), (0, .inl (.ref q0)), (1, .inl (.int a1))], [.inl (.ref (hr h q0 0)), .inl (.int y7), .inl (.int y5)], h, 0, 0)))
    refine k_steps HG 1 (zB_iff.mpr (?_ : G m _ (46, [(3, .inl (.int y5)), (2, .inl (.int y2)), (0, .inl (.ref q0)), (1, .inl (.int a1))], [.inl (.int (3 : Int32)), .inl (.ref (hr h q0 0)), .inl (.int y7), .inl (.int y5)], h, 0, 0)))
    refine k_cVI HG (E' := ze_X1_thingsUnder) (Or.inl ⟨rfl, rfl⟩) hsc rfl rfl rfl rfl rfl (fun hh => x_X1_thingsUnder hsc K.1 t8 hh) (fun y9 => (?_ : G m _ (49, [(3, .inl (.int y5)), (2, .inl (.int y2)), (0, .inl (.ref q0)), (1, .inl (.int a1))], [.inl (.int y9), .inl (.int y7), .inl (.int y5)], h, 0, 0)))
    refine k_steps HG 3 (kb_eq (x := (y5 &&& (y7 ||| y9))) (y := (0 : Int32)) ?_ ?_)
    · show G m _ (61, [(3, .inl (.int y5)), (2, .inl (.int y2)), (0, .inl (.ref q0)), (1, .inl (.int a1))], [], h, 0, 0)
      refine k_steps HG 2 (kb_ne (x := y2) (y := (0 : Int32)) ?_ ?_)
      · show G m _ (69, [(3, .inl (.int y5)), (2, .inl (.int y2)), (0, .inl (.ref q0)), (1, .inl (.int a1))], [], h, 0, 0)
        refine k_steps HG 2 (zB_iff.mpr (?_ : G m _ (73, [(3, .inl (.int y5)), (2, .inl (.int y2)), (0, .inl (.ref q0)), (1, .inl (.int a1))], [.inl (.int y5), .inl (.int (1000 : Int32))], h, 0, 0)))
        refine k_cSI HG (E' := ze_J6_bitCount_0f7a4) (Or.inl rfl) hsc rfl rfl rfl rfl (fun hh => x_J6_bitCount_0f7a4 hsc hh) (fun y10 => (?_ : G m _ (76, [(3, .inl (.int y5)), (2, .inl (.int y2)), (0, .inl (.ref q0)), (1, .inl (.int a1))], [.inl (.int y10), .inl (.int (1000 : Int32))], h, 0, 0)))
        refine k_steps HG 6 (zB_iff.mpr (?_ : G m _ (82, [(3, .inl (.int y5)), (2, .inl (.int y2)), (0, .inl (.ref q0)), (1, .inl (.int a1))], [.inl (.int y2), .inl (.int (((1000 : Int32) * y10) * (y2 - a1)))], h, 0, 0)))
        refine k_div HG rfl (?_ : G m _ (83, [(3, .inl (.int y5)), (2, .inl (.int y2)), (0, .inl (.ref q0)), (1, .inl (.int a1))], [.inl (.int ((((1000 : Int32) * y10) * (y2 - a1)) / y2))], h, 0, 0))
        exact k_reti HG rfl rfl (fun e1 e2 => hR _ _ e1 e2 K)
      · show G m _ (65, [(3, .inl (.int y5)), (2, .inl (.int y2)), (0, .inl (.ref q0)), (1, .inl (.int a1))], [], h, 0, 0)
        refine k_steps HG 2 (zB_iff.mpr (?_ : G m _ (83, [(3, .inl (.int y5)), (2, .inl (.int y2)), (0, .inl (.ref q0)), (1, .inl (.int a1))], [.inl (.int (0 : Int32))], h, 0, 0)))
        exact k_reti HG rfl rfl (fun e1 e2 => hR _ _ e1 e2 K)
    · show G m _ (54, [(3, .inl (.int y5)), (2, .inl (.int y2)), (0, .inl (.ref q0)), (1, .inl (.int a1))], [], h, 0, 0)
      refine k_steps HG 2 (zB_iff.mpr (?_ : G m _ (57, [(3, .inl (.int y5)), (2, .inl (.int y2)), (0, .inl (.ref q0)), (1, .inl (.int a1))], [.inl (.int (-5 : Int32)), .inl (.ref q0)], h, 0, 0)))
      refine k_cVIH HG (E' := ze_X4_refuse) (Or.inl ⟨rfl, rfl⟩) hsc rfl rfl rfl rfl rfl K rfl (fun hh => x_X4_refuse hsc K.1 hq_q0 hh) (fun y11 K11 => (?_ : G m _ (60, [(3, .inl (.int y5)), (2, .inl (.int y2)), (0, .inl (.ref q0)), (1, .inl (.int a1))], [.inl (.int y11.1)], y11.2, 0, 0)))
      exact k_reti HG rfl rfl (fun e1 e2 => hR _ _ e1 e2 K11)
  · show G m _ (17, [(2, .inl (.int y2)), (0, .inl (.ref q0)), (1, .inl (.int a1))], [], h, 0, 0)
    refine k_steps HG 2 (zB_iff.mpr (?_ : G m _ (20, [(2, .inl (.int y2)), (0, .inl (.ref q0)), (1, .inl (.int a1))], [.inl (.int (-2 : Int32)), .inl (.ref q0)], h, 0, 0)))
    refine k_cVIH HG (E' := ze_X4_refuse) (Or.inl ⟨rfl, rfl⟩) hsc rfl rfl rfl rfl rfl K rfl (fun hh => x_X4_refuse hsc K.1 hq_q0 hh) (fun y12 K12 => (?_ : G m _ (23, [(2, .inl (.int y2)), (0, .inl (.ref q0)), (1, .inl (.int a1))], [.inl (.int y12.1)], y12.2, 0, 0)))
    exact k_reti HG rfl rfl (fun e1 e2 => hR _ _ e1 e2 K12)
def W_X4_likes : List (Nat × Nat) := [(17, 1000), (23, 1000)]
noncomputable def F_X4_likes (h : zH) (q0 : Nat) (a1 : Int32) (a2 : Int32) (a3 : Int32) : Int32 × zH := (letf (F_X1_isBuyer h (hr h q0 0) a1) (fun y2 => (if y2 = (0 : Int32) then (letf (F_X4_refuse h q0 (-2 : Int32)) (fun y3 => (y3.1, y3.2))) else (letf (F_X1_isThing h (hr h q0 0) a2) (fun y5 => (if y5 = (0 : Int32) then (letf (F_X4_refuse h q0 (-2 : Int32)) (fun y6 => (y6.1, y6.2))) else (letf (F_X4_isWithin a3 (0 : Int32) (999 : Int32)) (fun y7 => (if y7 = (0 : Int32) then (letf (F_X4_refuse h q0 (-2 : Int32)) (fun y12 => (y12.1, y12.2))) else (letf (F_X1_liking h (hr h q0 0) a1 a2) (fun y9 => (letf (F_X1_putLiking h (hr h q0 0) a1 a2 a3) (fun h11 => (y9, h11))))))))))))))
theorem x_X4_likes {scr : List zV} {T : List Nat} {h : zH} {q0 : Nat} {a1 : Int32} {a2 : Int32} {a3 : Int32} (hsc : cT scr) (K : hOK kty T h) (hq_q0 : T[q0]? = some 4) (hh : cH h) : xIH scr W_X4_likes T T 120 [.inl (.ref q0), .inl (.int a1), .inl (.int a2), .inl (.int a3)] h (F_X4_likes h q0 a1 a2 a3) := by
  refine xIH_intro (E := ze_X4_likes) hsc rfl (cTb_ok rfl) hh (fun d r h' G HG Pf hR m => ?_)
  have K := kOK_refl (W := W_X4_likes) K
  unfold F_X4_likes
  show G m _ (0, [(0, .inl (.ref q0)), (1, .inl (.int a1)), (2, .inl (.int a2)), (3, .inl (.int a3))], [], h, 0, 0)
  refine k_steps HG 1 (zB_iff.mpr (?_ : G m _ (1, [(0, .inl (.ref q0)), (1, .inl (.int a1)), (2, .inl (.int a2)), (3, .inl (.int a3))], [.inl (.ref q0)], h, 0, 0)))
  refine k_getR HG rfl K hq_q0 rfl (Nat.le_of_ble_eq_true rfl) rfl rfl (fun t1 => (?_ : G m _ (4, [(0, .inl (.ref q0)), (1, .inl (.int a1)), (2, .inl (.int a2)), (3, .inl (.int a3))], [.inl (.ref (hr h q0 0))], h, 0, 0)))
  refine k_steps HG 1 (zB_iff.mpr (?_ : G m _ (5, [(0, .inl (.ref q0)), (1, .inl (.int a1)), (2, .inl (.int a2)), (3, .inl (.int a3))], [.inl (.int a1), .inl (.ref (hr h q0 0))], h, 0, 0)))
  refine k_cVI HG (E' := ze_X1_isBuyer) (Or.inl ⟨rfl, rfl⟩) hsc rfl rfl rfl rfl rfl (fun hh => x_X1_isBuyer hsc K.1 t1 hh) (fun y2 => (?_ : G m _ (8, [(0, .inl (.ref q0)), (1, .inl (.int a1)), (2, .inl (.int a2)), (3, .inl (.int a3))], [.inl (.int y2)], h, 0, 0)))
  refine k_steps HG 1 (kb_eq (x := y2) (y := (0 : Int32)) ?_ ?_)
  · show G m _ (33, [(0, .inl (.ref q0)), (1, .inl (.int a1)), (2, .inl (.int a2)), (3, .inl (.int a3))], [], h, 0, 0)
    refine k_steps HG 2 (zB_iff.mpr (?_ : G m _ (36, [(0, .inl (.ref q0)), (1, .inl (.int a1)), (2, .inl (.int a2)), (3, .inl (.int a3))], [.inl (.int (-2 : Int32)), .inl (.ref q0)], h, 0, 0)))
    refine k_cVIH HG (E' := ze_X4_refuse) (Or.inl ⟨rfl, rfl⟩) hsc rfl rfl rfl rfl rfl K rfl (fun hh => x_X4_refuse hsc K.1 hq_q0 hh) (fun y3 K3 => (?_ : G m _ (39, [(0, .inl (.ref q0)), (1, .inl (.int a1)), (2, .inl (.int a2)), (3, .inl (.int a3))], [.inl (.int y3.1)], y3.2, 0, 0)))
    exact k_reti HG rfl rfl (fun e1 e2 => hR _ _ e1 e2 K3)
  · show G m _ (11, [(0, .inl (.ref q0)), (1, .inl (.int a1)), (2, .inl (.int a2)), (3, .inl (.int a3))], [], h, 0, 0)
    refine k_steps HG 1 (zB_iff.mpr (?_ : G m _ (12, [(0, .inl (.ref q0)), (1, .inl (.int a1)), (2, .inl (.int a2)), (3, .inl (.int a3))], [.inl (.ref q0)], h, 0, 0)))
    refine k_getR HG rfl K hq_q0 rfl (Nat.le_of_ble_eq_true rfl) rfl rfl (fun t4 => (?_ : G m _ (15, [(0, .inl (.ref q0)), (1, .inl (.int a1)), (2, .inl (.int a2)), (3, .inl (.int a3))], [.inl (.ref (hr h q0 0))], h, 0, 0)))
    refine k_steps HG 1 (zB_iff.mpr (?_ : G m _ (16, [(0, .inl (.ref q0)), (1, .inl (.int a1)), (2, .inl (.int a2)), (3, .inl (.int a3))], [.inl (.int a2), .inl (.ref (hr h q0 0))], h, 0, 0)))
    refine k_cVI HG (E' := ze_X1_isThing) (Or.inl ⟨rfl, rfl⟩) hsc rfl rfl rfl rfl rfl (fun hh => x_X1_isThing hsc K.1 t4 hh) (fun y5 => (?_ : G m _ (19, [(0, .inl (.ref q0)), (1, .inl (.int a1)), (2, .inl (.int a2)), (3, .inl (.int a3))], [.inl (.int y5)], h, 0, 0)))
    refine k_steps HG 1 (kb_eq (x := y5) (y := (0 : Int32)) ?_ ?_)
    · show G m _ (33, [(0, .inl (.ref q0)), (1, .inl (.int a1)), (2, .inl (.int a2)), (3, .inl (.int a3))], [], h, 0, 0)
      refine k_steps HG 2 (zB_iff.mpr (?_ : G m _ (36, [(0, .inl (.ref q0)), (1, .inl (.int a1)), (2, .inl (.int a2)), (3, .inl (.int a3))], [.inl (.int (-2 : Int32)), .inl (.ref q0)], h, 0, 0)))
      refine k_cVIH HG (E' := ze_X4_refuse) (Or.inl ⟨rfl, rfl⟩) hsc rfl rfl rfl rfl rfl K rfl (fun hh => x_X4_refuse hsc K.1 hq_q0 hh) (fun y6 K6 => (?_ : G m _ (39, [(0, .inl (.ref q0)), (1, .inl (.int a1)), (2, .inl (.int a2)), (3, .inl (.int a3))], [.inl (.int y6.1)], y6.2, 0, 0)))
      exact k_reti HG rfl rfl (fun e1 e2 => hR _ _ e1 e2 K6)
    · show G m _ (22, [(0, .inl (.ref q0)), (1, .inl (.int a1)), (2, .inl (.int a2)), (3, .inl (.int a3))], [], h, 0, 0)
      refine k_steps HG 3 (zB_iff.mpr (?_ : G m _ (27, [(0, .inl (.ref q0)), (1, .inl (.int a1)), (2, .inl (.int a2)), (3, .inl (.int a3))], [.inl (.int (999 : Int32)), .inl (.int (0 : Int32)), .inl (.int a3)], h, 0, 0)))
      refine k_cSI HG (E' := ze_X4_isWithin) (Or.inl rfl) hsc rfl rfl rfl rfl (fun hh => x_X4_isWithin hsc hh) (fun y7 => (?_ : G m _ (30, [(0, .inl (.ref q0)), (1, .inl (.int a1)), (2, .inl (.int a2)), (3, .inl (.int a3))], [.inl (.int y7)], h, 0, 0)))
      refine k_steps HG 1 (kb_ne (x := y7) (y := (0 : Int32)) ?_ ?_)
      · show G m _ (40, [(0, .inl (.ref q0)), (1, .inl (.int a1)), (2, .inl (.int a2)), (3, .inl (.int a3))], [], h, 0, 0)
        refine k_steps HG 1 (zB_iff.mpr (?_ : G m _ (41, [(0, .inl (.ref q0)), (1, .inl (.int a1)), (2, .inl (.int a2)), (3, .inl (.int a3))], [.inl (.ref q0)], h, 0, 0)))
        refine k_getR HG rfl K hq_q0 rfl (Nat.le_of_ble_eq_true rfl) rfl rfl (fun t8 => (?_ : G m _ (44, [(0, .inl (.ref q0)), (1, .inl (.int a1)), (2, .inl (.int a2)), (3, .inl (.int a3))], [.inl (.ref (hr h q0 0))], h, 0, 0)))
        refine k_steps HG 2 (zB_iff.mpr (?_ : G m _ (46, [(0, .inl (.ref q0)), (1, .inl (.int a1)), (2, .inl (.int a2)), (3, .inl (.int a3))], [.inl (.int a2), .inl (.int a1), .inl (.ref (hr h q0 0))], h, 0, 0)))
        refine k_cVI HG (E' := ze_X1_liking) (Or.inl ⟨rfl, rfl⟩) hsc rfl rfl rfl rfl rfl (fun hh => x_X1_liking hsc K.1 t8 hh) (fun y9 => (?_ : G m _ (49, [(0, .inl (.ref q0)), (1, .inl (.int a1)), (2, .inl (.int a2)), (3, .inl (.int a3))], [.inl (.int y9)], h, 0, 0)))
        refine k_steps HG 2 (zB_iff.mpr (?_ : G m _ (52, [(4, .inl (.int y9)), (0, .inl (.ref q0)), (1, .inl (.int a1)), (2, .inl (.int a2)), (3, .inl (.int a3))], [.inl (.ref q0)], h, 0, 0)))
        refine k_getR HG rfl K hq_q0 rfl (Nat.le_of_ble_eq_true rfl) rfl rfl (fun t10 => (?_ : G m _ (55, [(4, .inl (.int y9)), (0, .inl (.ref q0)), (1, .inl (.int a1)), (2, .inl (.int a2)), (3, .inl (.int a3))], [.inl (.ref (hr h q0 0))], h, 0, 0)))
        refine k_steps HG 3 (zB_iff.mpr (?_ : G m _ (58, [(4, .inl (.int y9)), (0, .inl (.ref q0)), (1, .inl (.int a1)), (2, .inl (.int a2)), (3, .inl (.int a3))], [.inl (.int a3), .inl (.int a2), .inl (.int a1), .inl (.ref (hr h q0 0))], h, 0, 0)))
        refine k_cVH HG (E' := ze_X1_putLiking) (Or.inl ⟨rfl, rfl⟩) hsc rfl rfl rfl rfl rfl K rfl (fun hh => x_X1_putLiking hsc K.1 t10 hh) (fun h11 K11 => (?_ : G m _ (61, [(4, .inl (.int y9)), (0, .inl (.ref q0)), (1, .inl (.int a1)), (2, .inl (.int a2)), (3, .inl (.int a3))], [], h11, 0, 0)))
        refine k_steps HG 1 (zB_iff.mpr (?_ : G m _ (63, [(4, .inl (.int y9)), (0, .inl (.ref q0)), (1, .inl (.int a1)), (2, .inl (.int a2)), (3, .inl (.int a3))], [.inl (.int y9)], h11, 0, 0)))
        exact k_reti HG rfl rfl (fun e1 e2 => hR _ _ e1 e2 K11)
      · show G m _ (33, [(0, .inl (.ref q0)), (1, .inl (.int a1)), (2, .inl (.int a2)), (3, .inl (.int a3))], [], h, 0, 0)
        refine k_steps HG 2 (zB_iff.mpr (?_ : G m _ (36, [(0, .inl (.ref q0)), (1, .inl (.int a1)), (2, .inl (.int a2)), (3, .inl (.int a3))], [.inl (.int (-2 : Int32)), .inl (.ref q0)], h, 0, 0)))
        refine k_cVIH HG (E' := ze_X4_refuse) (Or.inl ⟨rfl, rfl⟩) hsc rfl rfl rfl rfl rfl K rfl (fun hh => x_X4_refuse hsc K.1 hq_q0 hh) (fun y12 K12 => (?_ : G m _ (39, [(0, .inl (.ref q0)), (1, .inl (.int a1)), (2, .inl (.int a2)), (3, .inl (.int a3))], [.inl (.int y12.1)], y12.2, 0, 0)))
        exact k_reti HG rfl rfl (fun e1 e2 => hR _ _ e1 e2 K12)
def W_X4_oldest : List (Nat × Nat) := [(23, 1000)]
noncomputable def B_X4_oldest_21 (h : zH) (c0 : Nat) (s : (Int32 × Int32)) : (Int32 × Int32) ⊕ (Int32 × zH) := (if s.2 < (hv h (hr h c0 0) 8) then (if (hv h (hr h (hr h c0 0) 12) s.1.toNatClampNeg) < (hv h (hr h (hr h c0 0) 12) s.2.toNatClampNeg) then (Sum.inl (s.2, (s.2 + (1 : Int32)))) else (Sum.inl (s.1, (s.2 + (1 : Int32))))) else (Sum.inr (s.1, h)))
noncomputable def F_X4_oldest (h : zH) (q0 : Nat) : Int32 × zH := (if (hv h (hr h q0 0) 8) = (0 : Int32) then (letf (F_X4_refuse h q0 (-5 : Int32)) (fun y8 => (y8.1, y8.2))) else (fx (B_X4_oldest_21 h q0) (0, []) ((0 : Int32), (1 : Int32))))
theorem x_X4_oldest {scr : List zV} {T : List Nat} {h : zH} {q0 : Nat} (hsc : cT scr) (K : hOK kty T h) (hq_q0 : T[q0]? = some 4) (hh : cH h) : xIH scr W_X4_oldest T T 123 [.inl (.ref q0)] h (F_X4_oldest h q0) := by
  refine xIH_intro (E := ze_X4_oldest) hsc rfl (cTb_ok rfl) hh (fun d r h' G HG Pf hR m => ?_)
  have K := kOK_refl (W := W_X4_oldest) K
  unfold F_X4_oldest
  show G m _ (0, [(0, .inl (.ref q0))], [], h, 0, 0)
  refine k_steps HG 1 (zB_iff.mpr (?_ : G m _ (1, [(0, .inl (.ref q0))], [.inl (.ref q0)], h, 0, 0)))
  refine k_getR HG rfl K hq_q0 rfl (Nat.le_of_ble_eq_true rfl) rfl rfl (fun t1 => (?_ : G m _ (4, [(0, .inl (.ref q0))], [.inl (.ref (hr h q0 0))], h, 0, 0)))
  refine k_getI HG rfl K t1 rfl (Nat.le_of_ble_eq_true rfl) rfl (?_ : G m _ (7, [(0, .inl (.ref q0))], [.inl (.int (hv h (hr h q0 0) 8))], h, 0, 0))
  refine k_steps HG 1 (kb_ne (x := (hv h (hr h q0 0) 8)) (y := (0 : Int32)) ?_ ?_)
  · show G m _ (17, [(0, .inl (.ref q0))], [], h, 0, 0)
    refine k_steps HG 4 (zB_iff.mpr (?_ : G m _ (21, [(2, .inl (.int (1 : Int32))), (1, .inl (.int (0 : Int32))), (0, .inl (.ref q0))], [], h, 0, 0)))
    have lp2 : ∀ m2, m2 ≤ m → ∀ (v2_1 : Int32) (v2_2 : Int32), G m2 (Pf (fx (B_X4_oldest_21 h q0) (0, []) (v2_1, v2_2))) (21, [(0, .inl (.ref q0)), (1, .inl (.int v2_1)), (2, .inl (.int v2_2))], [], h, 0, 0) := by
      intro m2
      induction m2 with
      | zero =>
        intros
        exact k_zero HG
      | succ m2 ih2 =>
        intro le2 v2_1 v2_2
        have le2 := Nat.le_of_succ_le le2
        have ih2 := ih2 le2
        refine k_fx ?_
        rw [B_X4_oldest_21]
        refine k_first HG 1 (zB_iff.mpr (?_ : G m2 _ (23, [(0, .inl (.ref q0)), (1, .inl (.int v2_1)), (2, .inl (.int v2_2))], [.inl (.ref q0), .inl (.int v2_2)], h, 0, 0)))
        refine k_getR HG rfl K hq_q0 rfl (Nat.le_of_ble_eq_true rfl) rfl rfl (fun t3 => (?_ : G m2 _ (26, [(0, .inl (.ref q0)), (1, .inl (.int v2_1)), (2, .inl (.int v2_2))], [.inl (.ref (hr h q0 0)), .inl (.int v2_2)], h, 0, 0)))
        refine k_getI HG rfl K t3 rfl (Nat.le_of_ble_eq_true rfl) rfl (?_ : G m2 _ (29, [(0, .inl (.ref q0)), (1, .inl (.int v2_1)), (2, .inl (.int v2_2))], [.inl (.int (hv h (hr h q0 0) 8)), .inl (.int v2_2)], h, 0, 0))
        refine k_steps HG 1 (kb_ge (x := v2_2) (y := (hv h (hr h q0 0) 8)) ?_ ?_)
        · show G m2 _ (61, [(0, .inl (.ref q0)), (1, .inl (.int v2_1)), (2, .inl (.int v2_2))], [], h, 0, 0)
          refine k_steps HG 1 (zB_iff.mpr (?_ : G m2 _ (62, [(0, .inl (.ref q0)), (1, .inl (.int v2_1)), (2, .inl (.int v2_2))], [.inl (.int v2_1)], h, 0, 0)))
          exact k_reti HG rfl rfl (fun e1 e2 => hR _ _ e1 e2 K)
        · show G m2 _ (32, [(0, .inl (.ref q0)), (1, .inl (.int v2_1)), (2, .inl (.int v2_2))], [], h, 0, 0)
          refine k_steps HG 1 (zB_iff.mpr (?_ : G m2 _ (33, [(0, .inl (.ref q0)), (1, .inl (.int v2_1)), (2, .inl (.int v2_2))], [.inl (.ref q0)], h, 0, 0)))
          refine k_getR HG rfl K hq_q0 rfl (Nat.le_of_ble_eq_true rfl) rfl rfl (fun t4 => (?_ : G m2 _ (36, [(0, .inl (.ref q0)), (1, .inl (.int v2_1)), (2, .inl (.int v2_2))], [.inl (.ref (hr h q0 0))], h, 0, 0)))
          refine k_getR HG rfl K t4 rfl (Nat.le_of_ble_eq_true rfl) rfl rfl (fun t5 => (?_ : G m2 _ (39, [(0, .inl (.ref q0)), (1, .inl (.int v2_1)), (2, .inl (.int v2_2))], [.inl (.ref (hr h (hr h q0 0) 12))], h, 0, 0)))
          refine k_steps HG 1 (zB_iff.mpr (?_ : G m2 _ (40, [(0, .inl (.ref q0)), (1, .inl (.int v2_1)), (2, .inl (.int v2_2))], [.inl (.int v2_2), .inl (.ref (hr h (hr h q0 0) 12))], h, 0, 0)))
          refine k_iald HG rfl K t5 rfl (fun _ => rfl) (?_ : G m2 _ (41, [(0, .inl (.ref q0)), (1, .inl (.int v2_1)), (2, .inl (.int v2_2))], [.inl (.int (hv h (hr h (hr h q0 0) 12) v2_2.toNatClampNeg))], h, 0, 0))
          refine k_steps HG 1 (zB_iff.mpr (?_ : G m2 _ (42, [(0, .inl (.ref q0)), (1, .inl (.int v2_1)), (2, .inl (.int v2_2))], [.inl (.ref q0), .inl (.int (hv h (hr h (hr h q0 0) 12) v2_2.toNatClampNeg))], h, 0, 0)))
          refine k_getR HG rfl K hq_q0 rfl (Nat.le_of_ble_eq_true rfl) rfl rfl (fun t6 => (?_ : G m2 _ (45, [(0, .inl (.ref q0)), (1, .inl (.int v2_1)), (2, .inl (.int v2_2))], [.inl (.ref (hr h q0 0)), .inl (.int (hv h (hr h (hr h q0 0) 12) v2_2.toNatClampNeg))], h, 0, 0)))
          refine k_getR HG rfl K t6 rfl (Nat.le_of_ble_eq_true rfl) rfl rfl (fun t7 => (?_ : G m2 _ (48, [(0, .inl (.ref q0)), (1, .inl (.int v2_1)), (2, .inl (.int v2_2))], [.inl (.ref (hr h (hr h q0 0) 12)), .inl (.int (hv h (hr h (hr h q0 0) 12) v2_2.toNatClampNeg))], h, 0, 0)))
          refine k_steps HG 1 (zB_iff.mpr (?_ : G m2 _ (49, [(0, .inl (.ref q0)), (1, .inl (.int v2_1)), (2, .inl (.int v2_2))], [.inl (.int v2_1), .inl (.ref (hr h (hr h q0 0) 12)), .inl (.int (hv h (hr h (hr h q0 0) 12) v2_2.toNatClampNeg))], h, 0, 0)))
          refine k_iald HG rfl K t7 rfl (fun _ => rfl) (?_ : G m2 _ (50, [(0, .inl (.ref q0)), (1, .inl (.int v2_1)), (2, .inl (.int v2_2))], [.inl (.int (hv h (hr h (hr h q0 0) 12) v2_1.toNatClampNeg)), .inl (.int (hv h (hr h (hr h q0 0) 12) v2_2.toNatClampNeg))], h, 0, 0))
          refine k_steps HG 1 (kb_le (x := (hv h (hr h (hr h q0 0) 12) v2_2.toNatClampNeg)) (y := (hv h (hr h (hr h q0 0) 12) v2_1.toNatClampNeg)) ?_ ?_)
          · show G m2 _ (55, [(0, .inl (.ref q0)), (1, .inl (.int v2_1)), (2, .inl (.int v2_2))], [], h, 0, 0)
            refine k_steps HG 2 (zB_iff.mpr (?_ : G m2 _ (21, [(2, .inl (.int (v2_2 + (1 : Int32)))), (0, .inl (.ref q0)), (1, .inl (.int v2_1))], [], h, 0, 0)))
            refine k_ext HG (L' := [(0, .inl (.ref q0)), (1, .inl (.int v2_1)), (2, .inl (.int (v2_2 + (1 : Int32))))]) rfl rfl ⟨rfl, rfl, rfl, trivial⟩ ?_
            exact ih2 _ _
          · show G m2 _ (53, [(0, .inl (.ref q0)), (1, .inl (.int v2_1)), (2, .inl (.int v2_2))], [], h, 0, 0)
            refine k_steps HG 4 (zB_iff.mpr (?_ : G m2 _ (21, [(2, .inl (.int (v2_2 + (1 : Int32)))), (1, .inl (.int v2_2)), (0, .inl (.ref q0))], [], h, 0, 0)))
            refine k_ext HG (L' := [(0, .inl (.ref q0)), (1, .inl (.int v2_2)), (2, .inl (.int (v2_2 + (1 : Int32))))]) rfl rfl ⟨rfl, rfl, rfl, trivial⟩ ?_
            exact ih2 _ _
    refine k_ext HG (L' := [(0, .inl (.ref q0)), (1, .inl (.int (0 : Int32))), (2, .inl (.int (1 : Int32)))]) rfl rfl ⟨rfl, rfl, rfl, trivial⟩ ?_
    exact lp2 m (Nat.le_refl _) _ _
  · show G m _ (10, [(0, .inl (.ref q0))], [], h, 0, 0)
    refine k_steps HG 2 (zB_iff.mpr (?_ : G m _ (13, [(0, .inl (.ref q0))], [.inl (.int (-5 : Int32)), .inl (.ref q0)], h, 0, 0)))
    refine k_cVIH HG (E' := ze_X4_refuse) (Or.inl ⟨rfl, rfl⟩) hsc rfl rfl rfl rfl rfl K rfl (fun hh => x_X4_refuse hsc K.1 hq_q0 hh) (fun y8 K8 => (?_ : G m _ (16, [(0, .inl (.ref q0))], [.inl (.int y8.1)], y8.2, 0, 0)))
    exact k_reti HG rfl rfl (fun e1 e2 => hR _ _ e1 e2 K8)
