noncomputable def B_X5_worthTo_7 (h : zH) (c0 : Nat) (c1 : Int32) (s : (Int32 × Int32 × Int32)) : (Int32 × Int32 × Int32) ⊕ (Int32) := (if (hv h c0 9) < s.2.2 then (if s.1 = (0 : Int32) then (Sum.inr (0 : Int32)) else (Sum.inr ((s.2.1 * (1000 : Int32)) / s.1))) else (letf (F_X5_canDraw h c0 s.2.2) (fun y1001 => (if y1001 = (0 : Int32) then (Sum.inl (s.1, s.2.1, (s.2.2 + (1 : Int32)))) else (letf (F_X5_winsBy h c0 s.2.2) (fun y1002 => (letf (F_X5_liked h c0 c1 y1002) (fun y1003 => (Sum.inl ((s.1 + (1 : Int32)), (s.2.1 + y1003), (s.2.2 + (1 : Int32))))))))))))
noncomputable def F_X5_worthTo (h : zH) (q0 : Nat) (a1 : Int32) : Int32 := (fx (B_X5_worthTo_7 h q0 a1) 0 ((0 : Int32), (0 : Int32), (1 : Int32)))
theorem x_X5_worthTo {scr : List zV} {T : List Nat} {h : zH} {q0 : Nat} {a1 : Int32} (hsc : cT scr) (K : hOK kty T h) (hq_q0 : T[q0]? = some 5) (hh : cH h) : xI scr 248 [.inl (.ref q0), .inl (.int a1)] h (F_X5_worthTo h q0 a1) := by
  refine xI_intro (E := ze_X5_worthTo) hsc rfl (cTb_ok rfl) hh (fun d r h' G HG Pf hR m => ?_)
  have K := kOK_refl (W := []) K
  unfold F_X5_worthTo
  show G m _ (0, [(0, .inl (.ref q0)), (1, .inl (.int a1))], [], h, 0, 0)
  refine k_steps HG 6 (zB_iff.mpr (?_ : G m _ (7, [(4, .inl (.int (1 : Int32))), (3, .inl (.int (0 : Int32))), (2, .inl (.int (0 : Int32))), (0, .inl (.ref q0)), (1, .inl (.int a1))], [], h, 0, 0)))
  have lp1 : ∀ m1, m1 ≤ m → ∀ (v1_2 : Int32) (v1_3 : Int32) (v1_4 : Int32), G m1 (Pf (fx (B_X5_worthTo_7 h q0 a1) 0 (v1_2, v1_3, v1_4))) (7, [(0, .inl (.ref q0)), (1, .inl (.int a1)), (2, .inl (.int v1_2)), (3, .inl (.int v1_3)), (4, .inl (.int v1_4))], [], h, 0, 0) := by
    intro m1
    induction m1 with
    | zero =>
      intros
      exact k_zero HG
    | succ m1 ih1 =>
      intro le1 v1_2 v1_3 v1_4
      have le1 := Nat.le_of_succ_le le1
      have ih1 := ih1 le1
      refine k_fx ?_
      rw [B_X5_worthTo_7]
      refine k_first HG 1 (zB_iff.mpr (?_ : G m1 _ (10, [(0, .inl (.ref q0)), (1, .inl (.int a1)), (2, .inl (.int v1_2)), (3, .inl (.int v1_3)), (4, .inl (.int v1_4))], [.inl (.ref q0), .inl (.int v1_4)], h, 0, 0)))
      refine k_getI HG rfl K hq_q0 rfl (Nat.le_of_ble_eq_true rfl) rfl (?_ : G m1 _ (13, [(0, .inl (.ref q0)), (1, .inl (.int a1)), (2, .inl (.int v1_2)), (3, .inl (.int v1_3)), (4, .inl (.int v1_4))], [.inl (.int (hv h q0 9)), .inl (.int v1_4)], h, 0, 0))
      refine k_steps HG 1 (kb_gt (x := v1_4) (y := (hv h q0 9)) ?_ ?_)
      · show G m1 _ (48, [(0, .inl (.ref q0)), (1, .inl (.int a1)), (2, .inl (.int v1_2)), (3, .inl (.int v1_3)), (4, .inl (.int v1_4))], [], h, 0, 0)
        refine k_steps HG 2 (kb_ne (x := v1_2) (y := (0 : Int32)) ?_ ?_)
        · show G m1 _ (56, [(0, .inl (.ref q0)), (1, .inl (.int a1)), (2, .inl (.int v1_2)), (3, .inl (.int v1_3)), (4, .inl (.int v1_4))], [], h, 0, 0)
          refine k_steps HG 4 (zB_iff.mpr (?_ : G m1 _ (62, [(0, .inl (.ref q0)), (1, .inl (.int a1)), (2, .inl (.int v1_2)), (3, .inl (.int v1_3)), (4, .inl (.int v1_4))], [.inl (.int v1_2), .inl (.int (v1_3 * (1000 : Int32)))], h, 0, 0)))
          refine k_div HG rfl (?_ : G m1 _ (63, [(0, .inl (.ref q0)), (1, .inl (.int a1)), (2, .inl (.int v1_2)), (3, .inl (.int v1_3)), (4, .inl (.int v1_4))], [.inl (.int ((v1_3 * (1000 : Int32)) / v1_2))], h, 0, 0))
          exact k_reti HG rfl rfl (fun e1 e2 => hR _ e1 e2)
        · show G m1 _ (52, [(0, .inl (.ref q0)), (1, .inl (.int a1)), (2, .inl (.int v1_2)), (3, .inl (.int v1_3)), (4, .inl (.int v1_4))], [], h, 0, 0)
          refine k_steps HG 2 (zB_iff.mpr (?_ : G m1 _ (63, [(0, .inl (.ref q0)), (1, .inl (.int a1)), (2, .inl (.int v1_2)), (3, .inl (.int v1_3)), (4, .inl (.int v1_4))], [.inl (.int (0 : Int32))], h, 0, 0)))
          exact k_reti HG rfl rfl (fun e1 e2 => hR _ e1 e2)
      · show G m1 _ (16, [(0, .inl (.ref q0)), (1, .inl (.int a1)), (2, .inl (.int v1_2)), (3, .inl (.int v1_3)), (4, .inl (.int v1_4))], [], h, 0, 0)
        refine k_steps HG 2 (zB_iff.mpr (?_ : G m1 _ (19, [(0, .inl (.ref q0)), (1, .inl (.int a1)), (2, .inl (.int v1_2)), (3, .inl (.int v1_3)), (4, .inl (.int v1_4))], [.inl (.int v1_4), .inl (.ref q0)], h, 0, 0)))
        refine k_cVI HG (E' := ze_X5_canDraw) (Or.inl ⟨rfl, rfl⟩) hsc rfl rfl rfl rfl rfl (fun hh => x_X5_canDraw hsc K.1 hq_q0 hh) (fun y2 => (?_ : G m1 _ (22, [(0, .inl (.ref q0)), (1, .inl (.int a1)), (2, .inl (.int v1_2)), (3, .inl (.int v1_3)), (4, .inl (.int v1_4))], [.inl (.int y2)], h, 0, 0)))
        refine k_steps HG 1 (kb_eq (x := y2) (y := (0 : Int32)) ?_ ?_)
        · show G m1 _ (42, [(0, .inl (.ref q0)), (1, .inl (.int a1)), (2, .inl (.int v1_2)), (3, .inl (.int v1_3)), (4, .inl (.int v1_4))], [], h, 0, 0)
          refine k_steps HG 2 (zB_iff.mpr (?_ : G m1 _ (7, [(4, .inl (.int (v1_4 + (1 : Int32)))), (0, .inl (.ref q0)), (1, .inl (.int a1)), (2, .inl (.int v1_2)), (3, .inl (.int v1_3))], [], h, 0, 0)))
          refine k_ext HG (L' := [(0, .inl (.ref q0)), (1, .inl (.int a1)), (2, .inl (.int v1_2)), (3, .inl (.int v1_3)), (4, .inl (.int (v1_4 + (1 : Int32))))]) rfl rfl ⟨rfl, rfl, rfl, rfl, rfl, trivial⟩ ?_
          exact ih1 _ _ _
        · show G m1 _ (25, [(0, .inl (.ref q0)), (1, .inl (.int a1)), (2, .inl (.int v1_2)), (3, .inl (.int v1_3)), (4, .inl (.int v1_4))], [], h, 0, 0)
          refine k_steps HG 6 (zB_iff.mpr (?_ : G m1 _ (34, [(2, .inl (.int (v1_2 + (1 : Int32)))), (0, .inl (.ref q0)), (1, .inl (.int a1)), (3, .inl (.int v1_3)), (4, .inl (.int v1_4))], [.inl (.int v1_4), .inl (.ref q0), .inl (.int a1), .inl (.ref q0), .inl (.int v1_3)], h, 0, 0)))
          refine k_cVI HG (E' := ze_X5_winsBy) (Or.inl ⟨rfl, rfl⟩) hsc rfl rfl rfl rfl rfl (fun hh => x_X5_winsBy hsc K.1 hq_q0 hh) (fun y3 => (?_ : G m1 _ (37, [(2, .inl (.int (v1_2 + (1 : Int32)))), (0, .inl (.ref q0)), (1, .inl (.int a1)), (3, .inl (.int v1_3)), (4, .inl (.int v1_4))], [.inl (.int y3), .inl (.int a1), .inl (.ref q0), .inl (.int v1_3)], h, 0, 0)))
          refine k_cVI HG (E' := ze_X5_liked) (Or.inl ⟨rfl, rfl⟩) hsc rfl rfl rfl rfl rfl (fun hh => x_X5_liked hsc K.1 hq_q0 hh) (fun y4 => (?_ : G m1 _ (40, [(2, .inl (.int (v1_2 + (1 : Int32)))), (0, .inl (.ref q0)), (1, .inl (.int a1)), (3, .inl (.int v1_3)), (4, .inl (.int v1_4))], [.inl (.int y4), .inl (.int v1_3)], h, 0, 0)))
          refine k_steps HG 4 (zB_iff.mpr (?_ : G m1 _ (7, [(4, .inl (.int (v1_4 + (1 : Int32)))), (3, .inl (.int (v1_3 + y4))), (2, .inl (.int (v1_2 + (1 : Int32)))), (0, .inl (.ref q0)), (1, .inl (.int a1))], [], h, 0, 0)))
          refine k_ext HG (L' := [(0, .inl (.ref q0)), (1, .inl (.int a1)), (2, .inl (.int (v1_2 + (1 : Int32)))), (3, .inl (.int (v1_3 + y4))), (4, .inl (.int (v1_4 + (1 : Int32))))]) rfl rfl ⟨rfl, rfl, rfl, rfl, rfl, trivial⟩ ?_
          exact ih1 _ _ _
  refine k_ext HG (L' := [(0, .inl (.ref q0)), (1, .inl (.int a1)), (2, .inl (.int (0 : Int32))), (3, .inl (.int (0 : Int32))), (4, .inl (.int (1 : Int32)))]) rfl rfl ⟨rfl, rfl, rfl, rfl, rfl, trivial⟩ ?_
  exact lp1 m (Nat.le_refl _) _ _ _
def W_X1_draw : List (Nat × Nat) := [(1, 4), (1, 7), (14, 1000), (15, 1000)]
noncomputable def B_X1_draw_24 (c0 : Nat) (c1 : Int32) (c2 : Int32) (c3 : Int32) (s : (Int32 × zH)) : (Int32 × zH) ⊕ (zH) := (if s.1 < (hv s.2 c0 8) then (if (c3 &&& ((1 : Int32) <<< (s.1 &&& 31))) = (0 : Int32) then (Sum.inl ((s.1 + (1 : Int32)), s.2)) else (letf (hput s.2 (hr s.2 c0 13) s.1.toNatClampNeg (.inl (.int c2))) (fun h1002 => (if (hv h1002 (hr h1002 c0 9) s.1.toNatClampNeg) = (2 : Int32) then (letf (hput h1002 (hr h1002 c0 12) s.1.toNatClampNeg (.inl (.int ((hv h1002 (hr h1002 c0 12) s.1.toNatClampNeg) + (1 : Int32))))) (fun h1006 => (Sum.inl ((s.1 + (1 : Int32)), h1006)))) else (letf (hput h1002 (hr h1002 c0 12) s.1.toNatClampNeg (.inl (.int ((hv h1002 (hr h1002 c0 12) s.1.toNatClampNeg) + (0 : Int32))))) (fun h1005 => (Sum.inl ((s.1 + (1 : Int32)), h1005)))))))) else (Sum.inr s.2))
noncomputable def F_X1_draw (h : zH) (q0 : Nat) (a1 : Int32) (a2 : Int32) : zH := (letf (F_X1_wonBySlip h q0 a1) (fun y1 => (letf (F_X1_takeOut h q0 a1) (fun h2 => (letf (hput h2 q0 4 (.inl (.int ((hv h2 q0 4) + (1 : Int32))))) (fun h3 => (fx (B_X1_draw_24 q0 a1 a2 y1) [] ((0 : Int32), h3))))))))
theorem x_X1_draw {scr : List zV} {T : List Nat} {h : zH} {q0 : Nat} {a1 : Int32} {a2 : Int32} (hsc : cT scr) (K : hOK kty T h) (hq_q0 : T[q0]? = some 1) (hh : cH h) : xH scr W_X1_draw T T 37 [.inl (.ref q0), .inl (.int a1), .inl (.int a2)] h (F_X1_draw h q0 a1 a2) := by
  refine xH_intro (E := ze_X1_draw) hsc rfl (cTb_ok rfl) hh (fun d r h' G HG Pf hR m => ?_)
  have K := kOK_refl (W := W_X1_draw) K
  unfold F_X1_draw
  show G m _ (0, [(0, .inl (.ref q0)), (1, .inl (.int a1)), (2, .inl (.int a2))], [], h, 0, 0)
  refine k_steps HG 2 (zB_iff.mpr (?_ : G m _ (2, [(0, .inl (.ref q0)), (1, .inl (.int a1)), (2, .inl (.int a2))], [.inl (.int a1), .inl (.ref q0)], h, 0, 0)))
  refine k_cVI HG (E' := ze_X1_wonBySlip) (Or.inl ⟨rfl, rfl⟩) hsc rfl rfl rfl rfl rfl (fun hh => x_X1_wonBySlip hsc K.1 hq_q0 hh) (fun y1 => (?_ : G m _ (5, [(0, .inl (.ref q0)), (1, .inl (.int a1)), (2, .inl (.int a2))], [.inl (.int y1)], h, 0, 0)))
  refine k_steps HG 3 (zB_iff.mpr (?_ : G m _ (8, [(3, .inl (.int y1)), (0, .inl (.ref q0)), (1, .inl (.int a1)), (2, .inl (.int a2))], [.inl (.int a1), .inl (.ref q0)], h, 0, 0)))
  refine k_cVH HG (E' := ze_X1_takeOut) (Or.inl ⟨rfl, rfl⟩) hsc rfl rfl rfl rfl rfl K rfl (fun hh => x_X1_takeOut hsc K.1 hq_q0 hh) (fun h2 K2 => (?_ : G m _ (11, [(3, .inl (.int y1)), (0, .inl (.ref q0)), (1, .inl (.int a1)), (2, .inl (.int a2))], [], h2, 0, 0)))
  refine k_steps HG 2 (zB_iff.mpr (?_ : G m _ (13, [(3, .inl (.int y1)), (0, .inl (.ref q0)), (1, .inl (.int a1)), (2, .inl (.int a2))], [.inl (.ref q0), .inl (.ref q0)], h2, 0, 0)))
  refine k_getI HG rfl K2 hq_q0 rfl (Nat.le_of_ble_eq_true rfl) rfl (?_ : G m _ (16, [(3, .inl (.int y1)), (0, .inl (.ref q0)), (1, .inl (.int a1)), (2, .inl (.int a2))], [.inl (.int (hv h2 q0 4)), .inl (.ref q0)], h2, 0, 0))
  refine k_steps HG 2 (zB_iff.mpr (?_ : G m _ (18, [(3, .inl (.int y1)), (0, .inl (.ref q0)), (1, .inl (.int a1)), (2, .inl (.int a2))], [.inl (.int ((hv h2 q0 4) + (1 : Int32))), .inl (.ref q0)], h2, 0, 0)))
  refine k_putI HG rfl K2 hq_q0 rfl rfl rfl (fun h3 K3 => (?_ : G m _ (21, [(3, .inl (.int y1)), (0, .inl (.ref q0)), (1, .inl (.int a1)), (2, .inl (.int a2))], [], h3, 0, 0)))
  refine k_steps HG 2 (zB_iff.mpr (?_ : G m _ (24, [(4, .inl (.int (0 : Int32))), (3, .inl (.int y1)), (0, .inl (.ref q0)), (1, .inl (.int a1)), (2, .inl (.int a2))], [], h3, 0, 0)))
  have lp4 : ∀ m4, m4 ≤ m → ∀ (v4_4 : Int32) (h4 : zH), kOK W_X1_draw T T h h4 → G m4 (Pf (fx (B_X1_draw_24 q0 a1 a2 y1) [] (v4_4, h4))) (24, [(0, .inl (.ref q0)), (1, .inl (.int a1)), (2, .inl (.int a2)), (3, .inl (.int y1)), (4, .inl (.int v4_4))], [], h4, 0, 0) := by
    intro m4
    induction m4 with
    | zero =>
      intros
      exact k_zero HG
    | succ m4 ih4 =>
      intro le4 v4_4 h4 K4
      have le4 := Nat.le_of_succ_le le4
      have ih4 := ih4 le4
      refine k_fx ?_
      rw [B_X1_draw_24]
      refine k_first HG 1 (zB_iff.mpr (?_ : G m4 _ (27, [(0, .inl (.ref q0)), (1, .inl (.int a1)), (2, .inl (.int a2)), (3, .inl (.int y1)), (4, .inl (.int v4_4))], [.inl (.ref q0), .inl (.int v4_4)], h4, 0, 0)))
      refine k_getI HG rfl K4 hq_q0 rfl (Nat.le_of_ble_eq_true rfl) rfl (?_ : G m4 _ (30, [(0, .inl (.ref q0)), (1, .inl (.int a1)), (2, .inl (.int a2)), (3, .inl (.int y1)), (4, .inl (.int v4_4))], [.inl (.int (hv h4 q0 8)), .inl (.int v4_4)], h4, 0, 0))
      refine k_steps HG 1 (kb_ge (x := v4_4) (y := (hv h4 q0 8)) ?_ ?_)
      · show G m4 _ (82, [(0, .inl (.ref q0)), (1, .inl (.int a1)), (2, .inl (.int a2)), (3, .inl (.int y1)), (4, .inl (.int v4_4))], [], h4, 0, 0)
        exact k_retv HG rfl rfl (fun e1 e2 => hR _ e1 e2 K4)
      · show G m4 _ (33, [(0, .inl (.ref q0)), (1, .inl (.int a1)), (2, .inl (.int a2)), (3, .inl (.int y1)), (4, .inl (.int v4_4))], [], h4, 0, 0)
        refine k_steps HG 6 (kb_eq (x := (y1 &&& ((1 : Int32) <<< (v4_4 &&& 31)))) (y := (0 : Int32)) ?_ ?_)
        · show G m4 _ (76, [(0, .inl (.ref q0)), (1, .inl (.int a1)), (2, .inl (.int a2)), (3, .inl (.int y1)), (4, .inl (.int v4_4))], [], h4, 0, 0)
          refine k_steps HG 2 (zB_iff.mpr (?_ : G m4 _ (24, [(4, .inl (.int (v4_4 + (1 : Int32)))), (0, .inl (.ref q0)), (1, .inl (.int a1)), (2, .inl (.int a2)), (3, .inl (.int y1))], [], h4, 0, 0)))
          refine k_ext HG (L' := [(0, .inl (.ref q0)), (1, .inl (.int a1)), (2, .inl (.int a2)), (3, .inl (.int y1)), (4, .inl (.int (v4_4 + (1 : Int32))))]) rfl rfl ⟨rfl, rfl, rfl, rfl, rfl, trivial⟩ ?_
          exact ih4 _ _ K4
        · show G m4 _ (42, [(0, .inl (.ref q0)), (1, .inl (.int a1)), (2, .inl (.int a2)), (3, .inl (.int y1)), (4, .inl (.int v4_4))], [], h4, 0, 0)
          refine k_steps HG 1 (zB_iff.mpr (?_ : G m4 _ (43, [(0, .inl (.ref q0)), (1, .inl (.int a1)), (2, .inl (.int a2)), (3, .inl (.int y1)), (4, .inl (.int v4_4))], [.inl (.ref q0)], h4, 0, 0)))
          refine k_getR HG rfl K4 hq_q0 rfl (Nat.le_of_ble_eq_true rfl) rfl rfl (fun t5 => (?_ : G m4 _ (46, [(0, .inl (.ref q0)), (1, .inl (.int a1)), (2, .inl (.int a2)), (3, .inl (.int y1)), (4, .inl (.int v4_4))], [.inl (.ref (hr h4 q0 13))], h4, 0, 0)))
          refine k_steps HG 2 (zB_iff.mpr (?_ : G m4 _ (49, [(0, .inl (.ref q0)), (1, .inl (.int a1)), (2, .inl (.int a2)), (3, .inl (.int y1)), (4, .inl (.int v4_4))], [.inl (.int a2), .inl (.int v4_4), .inl (.ref (hr h4 q0 13))], h4, 0, 0)))
          refine k_iast HG rfl K4 t5 rfl (fun _ => rfl) rfl (fun h6 K6 => (?_ : G m4 _ (50, [(0, .inl (.ref q0)), (1, .inl (.int a1)), (2, .inl (.int a2)), (3, .inl (.int y1)), (4, .inl (.int v4_4))], [], h6, 0, 0)))
          refine k_steps HG 1 (zB_iff.mpr (?_ : G m4 _ (51, [(0, .inl (.ref q0)), (1, .inl (.int a1)), (2, .inl (.int a2)), (3, .inl (.int y1)), (4, .inl (.int v4_4))], [.inl (.ref q0)], h6, 0, 0)))
          refine k_getR HG rfl K6 hq_q0 rfl (Nat.le_of_ble_eq_true rfl) rfl rfl (fun t7 => (?_ : G m4 _ (54, [(0, .inl (.ref q0)), (1, .inl (.int a1)), (2, .inl (.int a2)), (3, .inl (.int y1)), (4, .inl (.int v4_4))], [.inl (.ref (hr h6 q0 12))], h6, 0, 0)))
          refine k_steps HG 2 (zB_iff.mpr (?_ : G m4 _ (57, [(0, .inl (.ref q0)), (1, .inl (.int a1)), (2, .inl (.int a2)), (3, .inl (.int y1)), (4, .inl (.int v4_4))], [.inl (.int v4_4), .inl (.ref (hr h6 q0 12)), .inl (.int v4_4), .inl (.ref (hr h6 q0 12))], h6, 0, 0)))
          refine k_iald HG rfl K6 t7 rfl (fun _ => rfl) (?_ : G m4 _ (58, [(0, .inl (.ref q0)), (1, .inl (.int a1)), (2, .inl (.int a2)), (3, .inl (.int y1)), (4, .inl (.int v4_4))], [.inl (.int (hv h6 (hr h6 q0 12) v4_4.toNatClampNeg)), .inl (.int v4_4), .inl (.ref (hr h6 q0 12))], h6, 0, 0))
          refine k_steps HG 1 (zB_iff.mpr (?_ : G m4 _ (59, [(0, .inl (.ref q0)), (1, .inl (.int a1)), (2, .inl (.int a2)), (3, .inl (.int y1)), (4, .inl (.int v4_4))], [.inl (.ref q0), .inl (.int (hv h6 (hr h6 q0 12) v4_4.toNatClampNeg)), .inl (.int v4_4), .inl (.ref (hr h6 q0 12))], h6, 0, 0)))
          refine k_getR HG rfl K6 hq_q0 rfl (Nat.le_of_ble_eq_true rfl) rfl rfl (fun t8 => (?_ : G m4 _ (62, [(0, .inl (.ref q0)), (1, .inl (.int a1)), (2, .inl (.int a2)), (3, .inl (.int y1)), (4, .inl (.int v4_4))], [.inl (.ref (hr h6 q0 9)), .inl (.int (hv h6 (hr h6 q0 12) v4_4.toNatClampNeg)), .inl (.int v4_4), .inl (.ref (hr h6 q0 12))], h6, 0, 0)))
          refine k_steps HG 1 (zB_iff.mpr (?_ : G m4 _ (64, [(0, .inl (.ref q0)), (1, .inl (.int a1)), (2, .inl (.int a2)), (3, .inl (.int y1)), (4, .inl (.int v4_4))], [.inl (.int v4_4), .inl (.ref (hr h6 q0 9)), .inl (.int (hv h6 (hr h6 q0 12) v4_4.toNatClampNeg)), .inl (.int v4_4), .inl (.ref (hr h6 q0 12))], h6, 0, 0)))
          refine k_iald HG rfl K6 t8 rfl (fun _ => rfl) (?_ : G m4 _ (65, [(0, .inl (.ref q0)), (1, .inl (.int a1)), (2, .inl (.int a2)), (3, .inl (.int y1)), (4, .inl (.int v4_4))], [.inl (.int (hv h6 (hr h6 q0 9) v4_4.toNatClampNeg)), .inl (.int (hv h6 (hr h6 q0 12) v4_4.toNatClampNeg)), .inl (.int v4_4), .inl (.ref (hr h6 q0 12))], h6, 0, 0))
          refine k_steps HG 2 (kb_ne (x := (hv h6 (hr h6 q0 9) v4_4.toNatClampNeg)) (y := (2 : Int32)) ?_ ?_)
          · show G m4 _ (73, [(0, .inl (.ref q0)), (1, .inl (.int a1)), (2, .inl (.int a2)), (3, .inl (.int y1)), (4, .inl (.int v4_4))], [.inl (.int (hv h6 (hr h6 q0 12) v4_4.toNatClampNeg)), .inl (.int v4_4), .inl (.ref (hr h6 q0 12))], h6, 0, 0)
            refine k_steps HG 2 (zB_iff.mpr (?_ : G m4 _ (75, [(0, .inl (.ref q0)), (1, .inl (.int a1)), (2, .inl (.int a2)), (3, .inl (.int y1)), (4, .inl (.int v4_4))], [.inl (.int ((hv h6 (hr h6 q0 12) v4_4.toNatClampNeg) + (0 : Int32))), .inl (.int v4_4), .inl (.ref (hr h6 q0 12))], h6, 0, 0)))
            refine k_iast HG rfl K6 t7 rfl (fun _ => rfl) rfl (fun h9 K9 => (?_ : G m4 _ (76, [(0, .inl (.ref q0)), (1, .inl (.int a1)), (2, .inl (.int a2)), (3, .inl (.int y1)), (4, .inl (.int v4_4))], [], h9, 0, 0)))
            refine k_steps HG 2 (zB_iff.mpr (?_ : G m4 _ (24, [(4, .inl (.int (v4_4 + (1 : Int32)))), (0, .inl (.ref q0)), (1, .inl (.int a1)), (2, .inl (.int a2)), (3, .inl (.int y1))], [], h9, 0, 0)))
            refine k_ext HG (L' := [(0, .inl (.ref q0)), (1, .inl (.int a1)), (2, .inl (.int a2)), (3, .inl (.int y1)), (4, .inl (.int (v4_4 + (1 : Int32))))]) rfl rfl ⟨rfl, rfl, rfl, rfl, rfl, trivial⟩ ?_
            exact ih4 _ _ K9
          · show G m4 _ (69, [(0, .inl (.ref q0)), (1, .inl (.int a1)), (2, .inl (.int a2)), (3, .inl (.int y1)), (4, .inl (.int v4_4))], [.inl (.int (hv h6 (hr h6 q0 12) v4_4.toNatClampNeg)), .inl (.int v4_4), .inl (.ref (hr h6 q0 12))], h6, 0, 0)
            refine k_steps HG 3 (zB_iff.mpr (?_ : G m4 _ (75, [(0, .inl (.ref q0)), (1, .inl (.int a1)), (2, .inl (.int a2)), (3, .inl (.int y1)), (4, .inl (.int v4_4))], [.inl (.int ((hv h6 (hr h6 q0 12) v4_4.toNatClampNeg) + (1 : Int32))), .inl (.int v4_4), .inl (.ref (hr h6 q0 12))], h6, 0, 0)))
            refine k_iast HG rfl K6 t7 rfl (fun _ => rfl) rfl (fun h10 K10 => (?_ : G m4 _ (76, [(0, .inl (.ref q0)), (1, .inl (.int a1)), (2, .inl (.int a2)), (3, .inl (.int y1)), (4, .inl (.int v4_4))], [], h10, 0, 0)))
            refine k_steps HG 2 (zB_iff.mpr (?_ : G m4 _ (24, [(4, .inl (.int (v4_4 + (1 : Int32)))), (0, .inl (.ref q0)), (1, .inl (.int a1)), (2, .inl (.int a2)), (3, .inl (.int y1))], [], h10, 0, 0)))
            refine k_ext HG (L' := [(0, .inl (.ref q0)), (1, .inl (.int a1)), (2, .inl (.int a2)), (3, .inl (.int y1)), (4, .inl (.int (v4_4 + (1 : Int32))))]) rfl rfl ⟨rfl, rfl, rfl, rfl, rfl, trivial⟩ ?_
            exact ih4 _ _ K10
  refine k_ext HG (L' := [(0, .inl (.ref q0)), (1, .inl (.int a1)), (2, .inl (.int a2)), (3, .inl (.int y1)), (4, .inl (.int (0 : Int32)))]) rfl rfl ⟨rfl, rfl, rfl, rfl, rfl, trivial⟩ ?_
  exact lp4 m (Nat.le_refl _) _ _ K3
noncomputable def B_X1_worthOfGo_35 (h : zH) (c0 : Nat) (c1 : Int32) (c2 : Int32) (c3 : Int32) (s : (Int32 × Int32)) : (Int32 × Int32) ⊕ (Int32) := (if s.2 < (hv h c0 8) then (if (c3 &&& ((1 : Int32) <<< (s.2 &&& 31))) = (0 : Int32) then (Sum.inl (s.1, (s.2 + (1 : Int32)))) else (letf (F_X1_wonBySlip h c0 (hv h (hr h c0 10) s.2.toNatClampNeg)) (fun y1002 => (letf (F_X1_likingOfAll h c0 c1 y1002) (fun y1003 => (Sum.inl ((s.1 + y1003), (s.2 + (1 : Int32))))))))) else (Sum.inr (((1000 : Int32) * s.1) / c2)))
noncomputable def F_X1_worthOfGo (h : zH) (q0 : Nat) (a1 : Int32) : Int32 := (letf (F_X1_countDrawable h q0) (fun y1 => (if (0 : Int32) < y1 then (letf (F_X1_standing h q0) (fun y2 => (letf (F_X1_countIn h q0) (fun y3 => (letf (F_X1_thingsReady h q0 (hv h q0 4) y3) (fun y4 => (fx (B_X1_worthOfGo_35 h q0 a1 y1 (y2 &&& y4)) 0 ((0 : Int32), (0 : Int32))))))))) else (0 : Int32))))
theorem x_X1_worthOfGo {scr : List zV} {T : List Nat} {h : zH} {q0 : Nat} {a1 : Int32} (hsc : cT scr) (K : hOK kty T h) (hq_q0 : T[q0]? = some 1) (hh : cH h) : xI scr 61 [.inl (.ref q0), .inl (.int a1)] h (F_X1_worthOfGo h q0 a1) := by
  refine xI_intro (E := ze_X1_worthOfGo) hsc rfl (cTb_ok rfl) hh (fun d r h' G HG Pf hR m => ?_)
  have K := kOK_refl (W := []) K
  unfold F_X1_worthOfGo
  show G m _ (0, [(0, .inl (.ref q0)), (1, .inl (.int a1))], [], h, 0, 0)
  refine k_steps HG 1 (zB_iff.mpr (?_ : G m _ (1, [(0, .inl (.ref q0)), (1, .inl (.int a1))], [.inl (.ref q0)], h, 0, 0)))
  refine k_cVI HG (E' := ze_X1_countDrawable) (Or.inl ⟨rfl, rfl⟩) hsc rfl rfl rfl rfl rfl (fun hh => x_X1_countDrawable hsc K.1 hq_q0 hh) (fun y1 => (?_ : G m _ (4, [(0, .inl (.ref q0)), (1, .inl (.int a1))], [.inl (.int y1)], h, 0, 0)))
  refine k_steps HG 3 (kb_gt (x := y1) (y := (0 : Int32)) ?_ ?_)
  · show G m _ (11, [(2, .inl (.int y1)), (0, .inl (.ref q0)), (1, .inl (.int a1))], [], h, 0, 0)
    refine k_steps HG 1 (zB_iff.mpr (?_ : G m _ (12, [(2, .inl (.int y1)), (0, .inl (.ref q0)), (1, .inl (.int a1))], [.inl (.ref q0)], h, 0, 0)))
    refine k_cVI HG (E' := ze_X1_standing) (Or.inl ⟨rfl, rfl⟩) hsc rfl rfl rfl rfl rfl (fun hh => x_X1_standing hsc K.1 hq_q0 hh) (fun y2 => (?_ : G m _ (15, [(2, .inl (.int y1)), (0, .inl (.ref q0)), (1, .inl (.int a1))], [.inl (.int y2)], h, 0, 0)))
    refine k_steps HG 2 (zB_iff.mpr (?_ : G m _ (17, [(2, .inl (.int y1)), (0, .inl (.ref q0)), (1, .inl (.int a1))], [.inl (.ref q0), .inl (.ref q0), .inl (.int y2)], h, 0, 0)))
    refine k_getI HG rfl K hq_q0 rfl (Nat.le_of_ble_eq_true rfl) rfl (?_ : G m _ (20, [(2, .inl (.int y1)), (0, .inl (.ref q0)), (1, .inl (.int a1))], [.inl (.int (hv h q0 4)), .inl (.ref q0), .inl (.int y2)], h, 0, 0))
    refine k_steps HG 1 (zB_iff.mpr (?_ : G m _ (21, [(2, .inl (.int y1)), (0, .inl (.ref q0)), (1, .inl (.int a1))], [.inl (.ref q0), .inl (.int (hv h q0 4)), .inl (.ref q0), .inl (.int y2)], h, 0, 0)))
    refine k_cVI HG (E' := ze_X1_countIn) (Or.inl ⟨rfl, rfl⟩) hsc rfl rfl rfl rfl rfl (fun hh => x_X1_countIn hsc K.1 hq_q0 hh) (fun y3 => (?_ : G m _ (24, [(2, .inl (.int y1)), (0, .inl (.ref q0)), (1, .inl (.int a1))], [.inl (.int y3), .inl (.int (hv h q0 4)), .inl (.ref q0), .inl (.int y2)], h, 0, 0)))
    refine k_cVI HG (E' := ze_X1_thingsReady) (Or.inl ⟨rfl, rfl⟩) hsc rfl rfl rfl rfl rfl (fun hh => x_X1_thingsReady hsc K.1 hq_q0 hh) (fun y4 => (?_ : G m _ (27, [(2, .inl (.int y1)), (0, .inl (.ref q0)), (1, .inl (.int a1))], [.inl (.int y4), .inl (.int y2)], h, 0, 0)))
    refine k_steps HG 6 (zB_iff.mpr (?_ : G m _ (35, [(5, .inl (.int (0 : Int32))), (4, .inl (.int (0 : Int32))), (3, .inl (.int (y2 &&& y4))), (2, .inl (.int y1)), (0, .inl (.ref q0)), (1, .inl (.int a1))], [], h, 0, 0)))
    have lp5 : ∀ m5, m5 ≤ m → ∀ (v5_4 : Int32) (v5_5 : Int32), G m5 (Pf (fx (B_X1_worthOfGo_35 h q0 a1 y1 (y2 &&& y4)) 0 (v5_4, v5_5))) (35, [(0, .inl (.ref q0)), (1, .inl (.int a1)), (2, .inl (.int y1)), (3, .inl (.int (y2 &&& y4))), (4, .inl (.int v5_4)), (5, .inl (.int v5_5))], [], h, 0, 0) := by
      intro m5
      induction m5 with
      | zero =>
        intros
        exact k_zero HG
      | succ m5 ih5 =>
        intro le5 v5_4 v5_5
        have le5 := Nat.le_of_succ_le le5
        have ih5 := ih5 le5
        refine k_fx ?_
        rw [B_X1_worthOfGo_35]
        refine k_first HG 1 (zB_iff.mpr (?_ : G m5 _ (38, [(0, .inl (.ref q0)), (1, .inl (.int a1)), (2, .inl (.int y1)), (3, .inl (.int (y2 &&& y4))), (4, .inl (.int v5_4)), (5, .inl (.int v5_5))], [.inl (.ref q0), .inl (.int v5_5)], h, 0, 0)))
        refine k_getI HG rfl K hq_q0 rfl (Nat.le_of_ble_eq_true rfl) rfl (?_ : G m5 _ (41, [(0, .inl (.ref q0)), (1, .inl (.int a1)), (2, .inl (.int y1)), (3, .inl (.int (y2 &&& y4))), (4, .inl (.int v5_4)), (5, .inl (.int v5_5))], [.inl (.int (hv h q0 8)), .inl (.int v5_5)], h, 0, 0))
        refine k_steps HG 1 (kb_ge (x := v5_5) (y := (hv h q0 8)) ?_ ?_)
        · show G m5 _ (80, [(0, .inl (.ref q0)), (1, .inl (.int a1)), (2, .inl (.int y1)), (3, .inl (.int (y2 &&& y4))), (4, .inl (.int v5_4)), (5, .inl (.int v5_5))], [], h, 0, 0)
          refine k_steps HG 4 (zB_iff.mpr (?_ : G m5 _ (87, [(0, .inl (.ref q0)), (1, .inl (.int a1)), (2, .inl (.int y1)), (3, .inl (.int (y2 &&& y4))), (4, .inl (.int v5_4)), (5, .inl (.int v5_5))], [.inl (.int y1), .inl (.int ((1000 : Int32) * v5_4))], h, 0, 0)))
          refine k_div HG rfl (?_ : G m5 _ (88, [(0, .inl (.ref q0)), (1, .inl (.int a1)), (2, .inl (.int y1)), (3, .inl (.int (y2 &&& y4))), (4, .inl (.int v5_4)), (5, .inl (.int v5_5))], [.inl (.int (((1000 : Int32) * v5_4) / y1))], h, 0, 0))
          exact k_reti HG rfl rfl (fun e1 e2 => hR _ e1 e2)
        · show G m5 _ (44, [(0, .inl (.ref q0)), (1, .inl (.int a1)), (2, .inl (.int y1)), (3, .inl (.int (y2 &&& y4))), (4, .inl (.int v5_4)), (5, .inl (.int v5_5))], [], h, 0, 0)
          refine k_steps HG 6 (kb_eq (x := ((y2 &&& y4) &&& ((1 : Int32) <<< (v5_5 &&& 31)))) (y := (0 : Int32)) ?_ ?_)
          · show G m5 _ (74, [(0, .inl (.ref q0)), (1, .inl (.int a1)), (2, .inl (.int y1)), (3, .inl (.int (y2 &&& y4))), (4, .inl (.int v5_4)), (5, .inl (.int v5_5))], [], h, 0, 0)
            refine k_steps HG 2 (zB_iff.mpr (?_ : G m5 _ (35, [(5, .inl (.int (v5_5 + (1 : Int32)))), (0, .inl (.ref q0)), (1, .inl (.int a1)), (2, .inl (.int y1)), (3, .inl (.int (y2 &&& y4))), (4, .inl (.int v5_4))], [], h, 0, 0)))
            refine k_ext HG (L' := [(0, .inl (.ref q0)), (1, .inl (.int a1)), (2, .inl (.int y1)), (3, .inl (.int (y2 &&& y4))), (4, .inl (.int v5_4)), (5, .inl (.int (v5_5 + (1 : Int32))))]) rfl rfl ⟨rfl, rfl, rfl, rfl, rfl, rfl, trivial⟩ ?_
            exact ih5 _ _
          · show G m5 _ (53, [(0, .inl (.ref q0)), (1, .inl (.int a1)), (2, .inl (.int y1)), (3, .inl (.int (y2 &&& y4))), (4, .inl (.int v5_4)), (5, .inl (.int v5_5))], [], h, 0, 0)
            refine k_steps HG 5 (zB_iff.mpr (?_ : G m5 _ (59, [(0, .inl (.ref q0)), (1, .inl (.int a1)), (2, .inl (.int y1)), (3, .inl (.int (y2 &&& y4))), (4, .inl (.int v5_4)), (5, .inl (.int v5_5))], [.inl (.ref q0), .inl (.ref q0), .inl (.int a1), .inl (.ref q0), .inl (.int v5_4)], h, 0, 0)))
            refine k_getR HG rfl K hq_q0 rfl (Nat.le_of_ble_eq_true rfl) rfl rfl (fun t6 => (?_ : G m5 _ (62, [(0, .inl (.ref q0)), (1, .inl (.int a1)), (2, .inl (.int y1)), (3, .inl (.int (y2 &&& y4))), (4, .inl (.int v5_4)), (5, .inl (.int v5_5))], [.inl (.ref (hr h q0 10)), .inl (.ref q0), .inl (.int a1), .inl (.ref q0), .inl (.int v5_4)], h, 0, 0)))
            refine k_steps HG 1 (zB_iff.mpr (?_ : G m5 _ (64, [(0, .inl (.ref q0)), (1, .inl (.int a1)), (2, .inl (.int y1)), (3, .inl (.int (y2 &&& y4))), (4, .inl (.int v5_4)), (5, .inl (.int v5_5))], [.inl (.int v5_5), .inl (.ref (hr h q0 10)), .inl (.ref q0), .inl (.int a1), .inl (.ref q0), .inl (.int v5_4)], h, 0, 0)))
            refine k_iald HG rfl K t6 rfl (fun _ => rfl) (?_ : G m5 _ (65, [(0, .inl (.ref q0)), (1, .inl (.int a1)), (2, .inl (.int y1)), (3, .inl (.int (y2 &&& y4))), (4, .inl (.int v5_4)), (5, .inl (.int v5_5))], [.inl (.int (hv h (hr h q0 10) v5_5.toNatClampNeg)), .inl (.ref q0), .inl (.int a1), .inl (.ref q0), .inl (.int v5_4)], h, 0, 0))
            refine k_cVI HG (E' := ze_X1_wonBySlip) (Or.inl ⟨rfl, rfl⟩) hsc rfl rfl rfl rfl rfl (fun hh => x_X1_wonBySlip hsc K.1 hq_q0 hh) (fun y7 => (?_ : G m5 _ (68, [(0, .inl (.ref q0)), (1, .inl (.int a1)), (2, .inl (.int y1)), (3, .inl (.int (y2 &&& y4))), (4, .inl (.int v5_4)), (5, .inl (.int v5_5))], [.inl (.int y7), .inl (.int a1), .inl (.ref q0), .inl (.int v5_4)], h, 0, 0)))
            refine k_cVI HG (E' := ze_X1_likingOfAll) (Or.inl ⟨rfl, rfl⟩) hsc rfl rfl rfl rfl rfl (fun hh => x_X1_likingOfAll hsc K.1 hq_q0 hh) (fun y8 => (?_ : G m5 _ (71, [(0, .inl (.ref q0)), (1, .inl (.int a1)), (2, .inl (.int y1)), (3, .inl (.int (y2 &&& y4))), (4, .inl (.int v5_4)), (5, .inl (.int v5_5))], [.inl (.int y8), .inl (.int v5_4)], h, 0, 0)))
            refine k_steps HG 4 (zB_iff.mpr (?_ : G m5 _ (35, [(5, .inl (.int (v5_5 + (1 : Int32)))), (4, .inl (.int (v5_4 + y8))), (0, .inl (.ref q0)), (1, .inl (.int a1)), (2, .inl (.int y1)), (3, .inl (.int (y2 &&& y4)))], [], h, 0, 0)))
            refine k_ext HG (L' := [(0, .inl (.ref q0)), (1, .inl (.int a1)), (2, .inl (.int y1)), (3, .inl (.int (y2 &&& y4))), (4, .inl (.int (v5_4 + y8))), (5, .inl (.int (v5_5 + (1 : Int32))))]) rfl rfl ⟨rfl, rfl, rfl, rfl, rfl, rfl, trivial⟩ ?_
            exact ih5 _ _
    refine k_ext HG (L' := [(0, .inl (.ref q0)), (1, .inl (.int a1)), (2, .inl (.int y1)), (3, .inl (.int (y2 &&& y4))), (4, .inl (.int (0 : Int32))), (5, .inl (.int (0 : Int32)))]) rfl rfl ⟨rfl, rfl, rfl, rfl, rfl, rfl, trivial⟩ ?_
    exact lp5 m (Nat.le_refl _) _ _
  · show G m _ (9, [(2, .inl (.int y1)), (0, .inl (.ref q0)), (1, .inl (.int a1))], [], h, 0, 0)
    refine k_steps HG 1 (zB_iff.mpr (?_ : G m _ (10, [(2, .inl (.int y1)), (0, .inl (.ref q0)), (1, .inl (.int a1))], [.inl (.int (0 : Int32))], h, 0, 0)))
    exact k_reti HG rfl rfl (fun e1 e2 => hR _ e1 e2)
def W_X2_readStatement : List (Nat × Nat) := [(1, 0), (1, 1), (1, 2), (1, 3), (1, 7), (1, 8), (1, 14), (2, 2), (2, 3), (2, 4), (2, 5), (11, 1000), (12, 1000), (13, 1000), (14, 1000), (15, 1000), (16, 1000), (17, 1000)]
noncomputable def F_X2_readStatement (h : zH) (q0 : Nat) (q1 : Nat) : Int32 × zH := (letf (F_X2_isWord h q0 1000000) (fun y1 => (if y1 = (0 : Int32) then (letf (F_X2_isWord h q0 1000001) (fun y2 => (if y2 = (0 : Int32) then (letf (F_X2_isWord h q0 1000002) (fun y3 => (if y3 = (0 : Int32) then (letf (F_X2_isWord h q0 1000003) (fun y4 => (if y4 = (0 : Int32) then (letf (F_X2_isWord h q0 1000004) (fun y5 => (if y5 = (0 : Int32) then (letf (F_X2_isWord h q0 1000005) (fun y6 => (if y6 = (0 : Int32) then (letf (F_X2_isWord h q0 1000006) (fun y7 => (if y7 = (0 : Int32) then ((0 : Int32), h) else (letf (F_X2_readOut h q0 q1) (fun y8 => (if y8.1 = (0 : Int32) then ((0 : Int32), y8.2) else ((1 : Int32), y8.2))))))) else (letf (F_X2_readLiking h q0 q1) (fun y9 => (y9.1, y9.2)))))) else (letf (F_X2_readBuyer h q0 q1) (fun y10 => (y10.1, y10.2)))))) else (letf (F_X2_readThing h q0 q1) (fun y11 => (y11.1, y11.2)))))) else (letf (F_X2_readPrices h q0 q1) (fun y12 => (y12.1, y12.2)))))) else (letf (F_X2_readRule h q0 q1) (fun y13 => (y13.1, y13.2)))))) else (letf (F_X2_readSlips h q0 q1) (fun y14 => (y14.1, y14.2))))))
theorem x_X2_readStatement {scr : List zV} {T : List Nat} {h : zH} {q0 : Nat} {q1 : Nat} (hsc : cT scr) (K : hOK kty T h) (hq_q0 : T[q0]? = some 2) (hq_q1 : T[q1]? = some 1) (hh : cH h) : xIH scr W_X2_readStatement T T 72 [.inl (.ref q0), .inl (.ref q1)] h (F_X2_readStatement h q0 q1) := by
  refine xIH_intro (E := ze_X2_readStatement) hsc rfl (cTb_ok rfl) hh (fun d r h' G HG Pf hR m => ?_)
  have K := kOK_refl (W := W_X2_readStatement) K
  unfold F_X2_readStatement
  show G m _ (0, [(0, .inl (.ref q0)), (1, .inl (.ref q1))], [], h, 0, 0)
  refine k_steps HG 2 (zB_iff.mpr (?_ : G m _ (3, [(0, .inl (.ref q0)), (1, .inl (.ref q1))], [.inl (.ref 1000000), .inl (.ref q0)], h, 0, 0)))
  refine k_cVI HG (E' := ze_X2_isWord) (Or.inl ⟨rfl, rfl⟩) hsc rfl rfl rfl rfl rfl (fun hh => x_X2_isWord hsc K.1 hq_q0 hh) (fun y1 => (?_ : G m _ (6, [(0, .inl (.ref q0)), (1, .inl (.ref q1))], [.inl (.int y1)], h, 0, 0)))
  refine k_steps HG 1 (kb_eq (x := y1) (y := (0 : Int32)) ?_ ?_)
  · show G m _ (15, [(0, .inl (.ref q0)), (1, .inl (.ref q1))], [], h, 0, 0)
    refine k_steps HG 2 (zB_iff.mpr (?_ : G m _ (18, [(0, .inl (.ref q0)), (1, .inl (.ref q1))], [.inl (.ref 1000001), .inl (.ref q0)], h, 0, 0)))
    refine k_cVI HG (E' := ze_X2_isWord) (Or.inl ⟨rfl, rfl⟩) hsc rfl rfl rfl rfl rfl (fun hh => x_X2_isWord hsc K.1 hq_q0 hh) (fun y2 => (?_ : G m _ (21, [(0, .inl (.ref q0)), (1, .inl (.ref q1))], [.inl (.int y2)], h, 0, 0)))
    refine k_steps HG 1 (kb_eq (x := y2) (y := (0 : Int32)) ?_ ?_)
    · show G m _ (30, [(0, .inl (.ref q0)), (1, .inl (.ref q1))], [], h, 0, 0)
      refine k_steps HG 2 (zB_iff.mpr (?_ : G m _ (33, [(0, .inl (.ref q0)), (1, .inl (.ref q1))], [.inl (.ref 1000002), .inl (.ref q0)], h, 0, 0)))
      refine k_cVI HG (E' := ze_X2_isWord) (Or.inl ⟨rfl, rfl⟩) hsc rfl rfl rfl rfl rfl (fun hh => x_X2_isWord hsc K.1 hq_q0 hh) (fun y3 => (?_ : G m _ (36, [(0, .inl (.ref q0)), (1, .inl (.ref q1))], [.inl (.int y3)], h, 0, 0)))
      refine k_steps HG 1 (kb_eq (x := y3) (y := (0 : Int32)) ?_ ?_)
      · show G m _ (45, [(0, .inl (.ref q0)), (1, .inl (.ref q1))], [], h, 0, 0)
        refine k_steps HG 2 (zB_iff.mpr (?_ : G m _ (48, [(0, .inl (.ref q0)), (1, .inl (.ref q1))], [.inl (.ref 1000003), .inl (.ref q0)], h, 0, 0)))
        refine k_cVI HG (E' := ze_X2_isWord) (Or.inl ⟨rfl, rfl⟩) hsc rfl rfl rfl rfl rfl (fun hh => x_X2_isWord hsc K.1 hq_q0 hh) (fun y4 => (?_ : G m _ (51, [(0, .inl (.ref q0)), (1, .inl (.ref q1))], [.inl (.int y4)], h, 0, 0)))
        refine k_steps HG 1 (kb_eq (x := y4) (y := (0 : Int32)) ?_ ?_)
        · show G m _ (60, [(0, .inl (.ref q0)), (1, .inl (.ref q1))], [], h, 0, 0)
          refine k_steps HG 2 (zB_iff.mpr (?_ : G m _ (63, [(0, .inl (.ref q0)), (1, .inl (.ref q1))], [.inl (.ref 1000004), .inl (.ref q0)], h, 0, 0)))
          refine k_cVI HG (E' := ze_X2_isWord) (Or.inl ⟨rfl, rfl⟩) hsc rfl rfl rfl rfl rfl (fun hh => x_X2_isWord hsc K.1 hq_q0 hh) (fun y5 => (?_ : G m _ (66, [(0, .inl (.ref q0)), (1, .inl (.ref q1))], [.inl (.int y5)], h, 0, 0)))
          refine k_steps HG 1 (kb_eq (x := y5) (y := (0 : Int32)) ?_ ?_)
          · show G m _ (75, [(0, .inl (.ref q0)), (1, .inl (.ref q1))], [], h, 0, 0)
            refine k_steps HG 2 (zB_iff.mpr (?_ : G m _ (78, [(0, .inl (.ref q0)), (1, .inl (.ref q1))], [.inl (.ref 1000005), .inl (.ref q0)], h, 0, 0)))
            refine k_cVI HG (E' := ze_X2_isWord) (Or.inl ⟨rfl, rfl⟩) hsc rfl rfl rfl rfl rfl (fun hh => x_X2_isWord hsc K.1 hq_q0 hh) (fun y6 => (?_ : G m _ (81, [(0, .inl (.ref q0)), (1, .inl (.ref q1))], [.inl (.int y6)], h, 0, 0)))
            refine k_steps HG 1 (kb_eq (x := y6) (y := (0 : Int32)) ?_ ?_)
            · show G m _ (90, [(0, .inl (.ref q0)), (1, .inl (.ref q1))], [], h, 0, 0)
              refine k_steps HG 2 (zB_iff.mpr (?_ : G m _ (93, [(0, .inl (.ref q0)), (1, .inl (.ref q1))], [.inl (.ref 1000006), .inl (.ref q0)], h, 0, 0)))
              refine k_cVI HG (E' := ze_X2_isWord) (Or.inl ⟨rfl, rfl⟩) hsc rfl rfl rfl rfl rfl (fun hh => x_X2_isWord hsc K.1 hq_q0 hh) (fun y7 => (?_ : G m _ (96, [(0, .inl (.ref q0)), (1, .inl (.ref q1))], [.inl (.int y7)], h, 0, 0)))
              refine k_steps HG 1 (kb_eq (x := y7) (y := (0 : Int32)) ?_ ?_)
              · show G m _ (111, [(0, .inl (.ref q0)), (1, .inl (.ref q1))], [], h, 0, 0)
                refine k_steps HG 1 (zB_iff.mpr (?_ : G m _ (112, [(0, .inl (.ref q0)), (1, .inl (.ref q1))], [.inl (.int (0 : Int32))], h, 0, 0)))
                exact k_retz HG rfl rfl (fun e1 e2 => hR _ _ e1 e2 K)
              · show G m _ (99, [(0, .inl (.ref q0)), (1, .inl (.ref q1))], [], h, 0, 0)
                refine k_steps HG 2 (zB_iff.mpr (?_ : G m _ (101, [(0, .inl (.ref q0)), (1, .inl (.ref q1))], [.inl (.ref q1), .inl (.ref q0)], h, 0, 0)))
                refine k_cVIH HG (E' := ze_X2_readOut) (Or.inl ⟨rfl, rfl⟩) hsc rfl rfl rfl rfl rfl K rfl (fun hh => x_X2_readOut hsc K.1 hq_q0 hq_q1 hh) (fun y8 K8 => (?_ : G m _ (104, [(0, .inl (.ref q0)), (1, .inl (.ref q1))], [.inl (.int y8.1)], y8.2, 0, 0)))
                refine k_steps HG 1 (kb_eq (x := y8.1) (y := (0 : Int32)) ?_ ?_)
                · show G m _ (111, [(0, .inl (.ref q0)), (1, .inl (.ref q1))], [], y8.2, 0, 0)
                  refine k_steps HG 1 (zB_iff.mpr (?_ : G m _ (112, [(0, .inl (.ref q0)), (1, .inl (.ref q1))], [.inl (.int (0 : Int32))], y8.2, 0, 0)))
                  exact k_retz HG rfl rfl (fun e1 e2 => hR _ _ e1 e2 K8)
                · show G m _ (107, [(0, .inl (.ref q0)), (1, .inl (.ref q1))], [], y8.2, 0, 0)
                  refine k_steps HG 2 (zB_iff.mpr (?_ : G m _ (112, [(0, .inl (.ref q0)), (1, .inl (.ref q1))], [.inl (.int (1 : Int32))], y8.2, 0, 0)))
                  exact k_retz HG rfl rfl (fun e1 e2 => hR _ _ e1 e2 K8)
            · show G m _ (84, [(0, .inl (.ref q0)), (1, .inl (.ref q1))], [], h, 0, 0)
              refine k_steps HG 2 (zB_iff.mpr (?_ : G m _ (86, [(0, .inl (.ref q0)), (1, .inl (.ref q1))], [.inl (.ref q1), .inl (.ref q0)], h, 0, 0)))
              refine k_cVIH HG (E' := ze_X2_readLiking) (Or.inl ⟨rfl, rfl⟩) hsc rfl rfl rfl rfl rfl K rfl (fun hh => x_X2_readLiking hsc K.1 hq_q0 hq_q1 hh) (fun y9 K9 => (?_ : G m _ (89, [(0, .inl (.ref q0)), (1, .inl (.ref q1))], [.inl (.int y9.1)], y9.2, 0, 0)))
              exact k_retz HG rfl rfl (fun e1 e2 => hR _ _ e1 e2 K9)
          · show G m _ (69, [(0, .inl (.ref q0)), (1, .inl (.ref q1))], [], h, 0, 0)
            refine k_steps HG 2 (zB_iff.mpr (?_ : G m _ (71, [(0, .inl (.ref q0)), (1, .inl (.ref q1))], [.inl (.ref q1), .inl (.ref q0)], h, 0, 0)))
            refine k_cVIH HG (E' := ze_X2_readBuyer) (Or.inl ⟨rfl, rfl⟩) hsc rfl rfl rfl rfl rfl K rfl (fun hh => x_X2_readBuyer hsc K.1 hq_q0 hq_q1 hh) (fun y10 K10 => (?_ : G m _ (74, [(0, .inl (.ref q0)), (1, .inl (.ref q1))], [.inl (.int y10.1)], y10.2, 0, 0)))
            exact k_retz HG rfl rfl (fun e1 e2 => hR _ _ e1 e2 K10)
        · show G m _ (54, [(0, .inl (.ref q0)), (1, .inl (.ref q1))], [], h, 0, 0)
          refine k_steps HG 2 (zB_iff.mpr (?_ : G m _ (56, [(0, .inl (.ref q0)), (1, .inl (.ref q1))], [.inl (.ref q1), .inl (.ref q0)], h, 0, 0)))
          refine k_cVIH HG (E' := ze_X2_readThing) (Or.inl ⟨rfl, rfl⟩) hsc rfl rfl rfl rfl rfl K rfl (fun hh => x_X2_readThing hsc K.1 hq_q0 hq_q1 hh) (fun y11 K11 => (?_ : G m _ (59, [(0, .inl (.ref q0)), (1, .inl (.ref q1))], [.inl (.int y11.1)], y11.2, 0, 0)))
          exact k_retz HG rfl rfl (fun e1 e2 => hR _ _ e1 e2 K11)
      · show G m _ (39, [(0, .inl (.ref q0)), (1, .inl (.ref q1))], [], h, 0, 0)
        refine k_steps HG 2 (zB_iff.mpr (?_ : G m _ (41, [(0, .inl (.ref q0)), (1, .inl (.ref q1))], [.inl (.ref q1), .inl (.ref q0)], h, 0, 0)))
        refine k_cVIH HG (E' := ze_X2_readPrices) (Or.inl ⟨rfl, rfl⟩) hsc rfl rfl rfl rfl rfl K rfl (fun hh => x_X2_readPrices hsc K.1 hq_q0 hq_q1 hh) (fun y12 K12 => (?_ : G m _ (44, [(0, .inl (.ref q0)), (1, .inl (.ref q1))], [.inl (.int y12.1)], y12.2, 0, 0)))
        exact k_retz HG rfl rfl (fun e1 e2 => hR _ _ e1 e2 K12)
    · show G m _ (24, [(0, .inl (.ref q0)), (1, .inl (.ref q1))], [], h, 0, 0)
      refine k_steps HG 2 (zB_iff.mpr (?_ : G m _ (26, [(0, .inl (.ref q0)), (1, .inl (.ref q1))], [.inl (.ref q1), .inl (.ref q0)], h, 0, 0)))
      refine k_cVIH HG (E' := ze_X2_readRule) (Or.inl ⟨rfl, rfl⟩) hsc rfl rfl rfl rfl rfl K rfl (fun hh => x_X2_readRule hsc K.1 hq_q0 hq_q1 hh) (fun y13 K13 => (?_ : G m _ (29, [(0, .inl (.ref q0)), (1, .inl (.ref q1))], [.inl (.int y13.1)], y13.2, 0, 0)))
      exact k_retz HG rfl rfl (fun e1 e2 => hR _ _ e1 e2 K13)
  · show G m _ (9, [(0, .inl (.ref q0)), (1, .inl (.ref q1))], [], h, 0, 0)
    refine k_steps HG 2 (zB_iff.mpr (?_ : G m _ (11, [(0, .inl (.ref q0)), (1, .inl (.ref q1))], [.inl (.ref q1), .inl (.ref q0)], h, 0, 0)))
    refine k_cVIH HG (E' := ze_X2_readSlips) (Or.inl ⟨rfl, rfl⟩) hsc rfl rfl rfl rfl rfl K rfl (fun hh => x_X2_readSlips hsc K.1 hq_q0 hq_q1 hh) (fun y14 K14 => (?_ : G m _ (14, [(0, .inl (.ref q0)), (1, .inl (.ref q1))], [.inl (.int y14.1)], y14.2, 0, 0)))
    exact k_retz HG rfl rfl (fun e1 e2 => hR _ _ e1 e2 K14)
def W_X3_fillLayer : List (Nat × Nat) := [(19, 1000), (20, 1000)]
noncomputable def B_X3_fillLayer_12 (c0 : Nat) (c1 : Int32) (c2 : Int32) (c3 : Int32) (c4 : Int32) (s : (Int32 × zH)) : (Int32 × zH) ⊕ (zH) := (if s.1 < (0 : Int32) then (Sum.inr s.2) else (letf (F_J6_bitCount_0f7a4 s.1) (fun y1001 => (if (s.1 &&& ((hv s.2 c0 4) ^^^ (-1 : Int32))) = (0 : Int32) then (if (c2 - y1001) < (0 : Int32) then (Sum.inl ((s.1 + (-1 : Int32)), s.2)) else (letf (F_X3_valueOf s.2 c0 s.1 (s.1 &&& c3) (c2 - y1001) c4) (fun y1003 => (letf (hput s.2 (hr s.2 c0 0) s.1.toNatClampNeg (.inl (.int y1003))) (fun h1004 => (if (0 : Int32) < (hv h1004 (hr h1004 c0 0) s.1.toNatClampNeg) then (letf (F_X3_mark h1004 c0 c1 s.1) (fun h1006 => (Sum.inl ((s.1 + (-1 : Int32)), h1006)))) else (Sum.inl ((s.1 + (-1 : Int32)), h1004)))))))) else (Sum.inl ((s.1 + (-1 : Int32)), s.2))))))
noncomputable def F_X3_fillLayer (h : zH) (q0 : Nat) (a1 : Int32) (a2 : Int32) (a3 : Int32) (a4 : Int32) : zH := (fx (B_X3_fillLayer_12 q0 a1 a2 a3 a4) [] ((jmin (hv h q0 4) (255 : Int32)), h))
theorem x_X3_fillLayer {scr : List zV} {T : List Nat} {h : zH} {q0 : Nat} {a1 : Int32} {a2 : Int32} {a3 : Int32} {a4 : Int32} (hsc : cT scr) (K : hOK kty T h) (hq_q0 : T[q0]? = some 3) (hh : cH h) : xH scr W_X3_fillLayer T T 78 [.inl (.ref q0), .inl (.int a1), .inl (.int a2), .inl (.int a3), .inl (.int a4)] h (F_X3_fillLayer h q0 a1 a2 a3 a4) := by
  refine xH_intro (E := ze_X3_fillLayer) hsc rfl (cTb_ok rfl) hh (fun d r h' G HG Pf hR m => ?_)
  have K := kOK_refl (W := W_X3_fillLayer) K
  unfold F_X3_fillLayer
  show G m _ (0, [(0, .inl (.ref q0)), (1, .inl (.int a1)), (2, .inl (.int a2)), (3, .inl (.int a3)), (4, .inl (.int a4))], [], h, 0, 0)
  refine k_steps HG 1 (zB_iff.mpr (?_ : G m _ (1, [(0, .inl (.ref q0)), (1, .inl (.int a1)), (2, .inl (.int a2)), (3, .inl (.int a3)), (4, .inl (.int a4))], [.inl (.ref q0)], h, 0, 0)))
  refine k_getI HG rfl K hq_q0 rfl (Nat.le_of_ble_eq_true rfl) rfl (?_ : G m _ (4, [(0, .inl (.ref q0)), (1, .inl (.int a1)), (2, .inl (.int a2)), (3, .inl (.int a3)), (4, .inl (.int a4))], [.inl (.int (hv h q0 4))], h, 0, 0))
  refine k_steps HG 3 (zB_iff.mpr (?_ : G m _ (12, [(5, .inl (.int (jmin (hv h q0 4) (255 : Int32)))), (0, .inl (.ref q0)), (1, .inl (.int a1)), (2, .inl (.int a2)), (3, .inl (.int a3)), (4, .inl (.int a4))], [], h, 0, 0)))
  have lp1 : ∀ m1, m1 ≤ m → ∀ (d1_6 : Int32) (v1_5 : Int32) (h1 : zH), kOK W_X3_fillLayer T T h h1 → G m1 (Pf (fx (B_X3_fillLayer_12 q0 a1 a2 a3 a4) [] (v1_5, h1))) (12, [(0, .inl (.ref q0)), (1, .inl (.int a1)), (2, .inl (.int a2)), (3, .inl (.int a3)), (4, .inl (.int a4)), (5, .inl (.int v1_5)), (6, .inl (.int d1_6))], [], h1, 0, 0) := by
    intro m1
    induction m1 with
    | zero =>
      intros
      exact k_zero HG
    | succ m1 ih1 =>
      intro le1 d1_6 v1_5 h1 K1
      have le1 := Nat.le_of_succ_le le1
      have ih1 := ih1 le1
      refine k_fx ?_
      rw [B_X3_fillLayer_12]
      refine k_first HG 1 (kb_lt (x := v1_5) (y := (0 : Int32)) ?_ ?_)
      · show G m1 _ (87, [(0, .inl (.ref q0)), (1, .inl (.int a1)), (2, .inl (.int a2)), (3, .inl (.int a3)), (4, .inl (.int a4)), (5, .inl (.int v1_5)), (6, .inl (.int d1_6))], [], h1, 0, 0)
        exact k_retv HG rfl rfl (fun e1 e2 => hR _ e1 e2 K1)
      · show G m1 _ (17, [(0, .inl (.ref q0)), (1, .inl (.int a1)), (2, .inl (.int a2)), (3, .inl (.int a3)), (4, .inl (.int a4)), (5, .inl (.int v1_5)), (6, .inl (.int d1_6))], [], h1, 0, 0)
        refine k_steps HG 2 (zB_iff.mpr (?_ : G m1 _ (20, [(0, .inl (.ref q0)), (1, .inl (.int a1)), (2, .inl (.int a2)), (3, .inl (.int a3)), (4, .inl (.int a4)), (5, .inl (.int v1_5)), (6, .inl (.int d1_6))], [.inl (.int v1_5), .inl (.int a2)], h1, 0, 0)))
        refine k_cSI HG (E' := ze_J6_bitCount_0f7a4) (Or.inl rfl) hsc rfl rfl rfl rfl (fun hh => x_J6_bitCount_0f7a4 hsc hh) (fun y2 => (?_ : G m1 _ (23, [(0, .inl (.ref q0)), (1, .inl (.int a1)), (2, .inl (.int a2)), (3, .inl (.int a3)), (4, .inl (.int a4)), (5, .inl (.int v1_5)), (6, .inl (.int d1_6))], [.inl (.int y2), .inl (.int a2)], h1, 0, 0)))
        refine k_steps HG 4 (zB_iff.mpr (?_ : G m1 _ (29, [(6, .inl (.int (a2 - y2))), (0, .inl (.ref q0)), (1, .inl (.int a1)), (2, .inl (.int a2)), (3, .inl (.int a3)), (4, .inl (.int a4)), (5, .inl (.int v1_5))], [.inl (.ref q0), .inl (.int v1_5)], h1, 0, 0)))
        refine k_getI HG rfl K1 hq_q0 rfl (Nat.le_of_ble_eq_true rfl) rfl (?_ : G m1 _ (32, [(6, .inl (.int (a2 - y2))), (0, .inl (.ref q0)), (1, .inl (.int a1)), (2, .inl (.int a2)), (3, .inl (.int a3)), (4, .inl (.int a4)), (5, .inl (.int v1_5))], [.inl (.int (hv h1 q0 4)), .inl (.int v1_5)], h1, 0, 0))
        refine k_steps HG 4 (kb_ne (x := (v1_5 &&& ((hv h1 q0 4) ^^^ (-1 : Int32)))) (y := (0 : Int32)) ?_ ?_)
        · show G m1 _ (81, [(6, .inl (.int (a2 - y2))), (0, .inl (.ref q0)), (1, .inl (.int a1)), (2, .inl (.int a2)), (3, .inl (.int a3)), (4, .inl (.int a4)), (5, .inl (.int v1_5))], [], h1, 0, 0)
          refine k_steps HG 2 (zB_iff.mpr (?_ : G m1 _ (12, [(5, .inl (.int (v1_5 + (-1 : Int32)))), (6, .inl (.int (a2 - y2))), (0, .inl (.ref q0)), (1, .inl (.int a1)), (2, .inl (.int a2)), (3, .inl (.int a3)), (4, .inl (.int a4))], [], h1, 0, 0)))
          refine k_ext HG (L' := [(0, .inl (.ref q0)), (1, .inl (.int a1)), (2, .inl (.int a2)), (3, .inl (.int a3)), (4, .inl (.int a4)), (5, .inl (.int (v1_5 + (-1 : Int32)))), (6, .inl (.int (a2 - y2)))]) rfl rfl ⟨rfl, rfl, rfl, rfl, rfl, rfl, rfl, trivial⟩ ?_
          exact ih1 _ _ _ K1
        · show G m1 _ (38, [(6, .inl (.int (a2 - y2))), (0, .inl (.ref q0)), (1, .inl (.int a1)), (2, .inl (.int a2)), (3, .inl (.int a3)), (4, .inl (.int a4)), (5, .inl (.int v1_5))], [], h1, 0, 0)
          refine k_steps HG 2 (kb_lt (x := (a2 - y2)) (y := (0 : Int32)) ?_ ?_)
          · show G m1 _ (81, [(6, .inl (.int (a2 - y2))), (0, .inl (.ref q0)), (1, .inl (.int a1)), (2, .inl (.int a2)), (3, .inl (.int a3)), (4, .inl (.int a4)), (5, .inl (.int v1_5))], [], h1, 0, 0)
            refine k_steps HG 2 (zB_iff.mpr (?_ : G m1 _ (12, [(5, .inl (.int (v1_5 + (-1 : Int32)))), (6, .inl (.int (a2 - y2))), (0, .inl (.ref q0)), (1, .inl (.int a1)), (2, .inl (.int a2)), (3, .inl (.int a3)), (4, .inl (.int a4))], [], h1, 0, 0)))
            refine k_ext HG (L' := [(0, .inl (.ref q0)), (1, .inl (.int a1)), (2, .inl (.int a2)), (3, .inl (.int a3)), (4, .inl (.int a4)), (5, .inl (.int (v1_5 + (-1 : Int32)))), (6, .inl (.int (a2 - y2)))]) rfl rfl ⟨rfl, rfl, rfl, rfl, rfl, rfl, rfl, trivial⟩ ?_
            exact ih1 _ _ _ K1
          · show G m1 _ (43, [(6, .inl (.int (a2 - y2))), (0, .inl (.ref q0)), (1, .inl (.int a1)), (2, .inl (.int a2)), (3, .inl (.int a3)), (4, .inl (.int a4)), (5, .inl (.int v1_5))], [], h1, 0, 0)
            refine k_steps HG 1 (zB_iff.mpr (?_ : G m1 _ (44, [(6, .inl (.int (a2 - y2))), (0, .inl (.ref q0)), (1, .inl (.int a1)), (2, .inl (.int a2)), (3, .inl (.int a3)), (4, .inl (.int a4)), (5, .inl (.int v1_5))], [.inl (.ref q0)], h1, 0, 0)))
            refine k_getR HG rfl K1 hq_q0 rfl (Nat.le_of_ble_eq_true rfl) rfl rfl (fun t3 => (?_ : G m1 _ (47, [(6, .inl (.int (a2 - y2))), (0, .inl (.ref q0)), (1, .inl (.int a1)), (2, .inl (.int a2)), (3, .inl (.int a3)), (4, .inl (.int a4)), (5, .inl (.int v1_5))], [.inl (.ref (hr h1 q0 0))], h1, 0, 0)))
            refine k_steps HG 8 (zB_iff.mpr (?_ : G m1 _ (60, [(6, .inl (.int (a2 - y2))), (0, .inl (.ref q0)), (1, .inl (.int a1)), (2, .inl (.int a2)), (3, .inl (.int a3)), (4, .inl (.int a4)), (5, .inl (.int v1_5))], [.inl (.int a4), .inl (.int (a2 - y2)), .inl (.int (v1_5 &&& a3)), .inl (.int v1_5), .inl (.ref q0), .inl (.int v1_5), .inl (.ref (hr h1 q0 0))], h1, 0, 0)))
            refine k_cVI HG (E' := ze_X3_valueOf) (Or.inl ⟨rfl, rfl⟩) hsc rfl rfl rfl rfl rfl (fun hh => x_X3_valueOf hsc K1.1 hq_q0 hh) (fun y4 => (?_ : G m1 _ (63, [(6, .inl (.int (a2 - y2))), (0, .inl (.ref q0)), (1, .inl (.int a1)), (2, .inl (.int a2)), (3, .inl (.int a3)), (4, .inl (.int a4)), (5, .inl (.int v1_5))], [.inl (.int y4), .inl (.int v1_5), .inl (.ref (hr h1 q0 0))], h1, 0, 0)))
            refine k_iast HG rfl K1 t3 rfl (fun _ => rfl) rfl (fun h5 K5 => (?_ : G m1 _ (64, [(6, .inl (.int (a2 - y2))), (0, .inl (.ref q0)), (1, .inl (.int a1)), (2, .inl (.int a2)), (3, .inl (.int a3)), (4, .inl (.int a4)), (5, .inl (.int v1_5))], [], h5, 0, 0)))
            refine k_steps HG 1 (zB_iff.mpr (?_ : G m1 _ (65, [(6, .inl (.int (a2 - y2))), (0, .inl (.ref q0)), (1, .inl (.int a1)), (2, .inl (.int a2)), (3, .inl (.int a3)), (4, .inl (.int a4)), (5, .inl (.int v1_5))], [.inl (.ref q0)], h5, 0, 0)))
            refine k_getR HG rfl K5 hq_q0 rfl (Nat.le_of_ble_eq_true rfl) rfl rfl (fun t6 => (?_ : G m1 _ (68, [(6, .inl (.int (a2 - y2))), (0, .inl (.ref q0)), (1, .inl (.int a1)), (2, .inl (.int a2)), (3, .inl (.int a3)), (4, .inl (.int a4)), (5, .inl (.int v1_5))], [.inl (.ref (hr h5 q0 0))], h5, 0, 0)))
            refine k_steps HG 1 (zB_iff.mpr (?_ : G m1 _ (70, [(6, .inl (.int (a2 - y2))), (0, .inl (.ref q0)), (1, .inl (.int a1)), (2, .inl (.int a2)), (3, .inl (.int a3)), (4, .inl (.int a4)), (5, .inl (.int v1_5))], [.inl (.int v1_5), .inl (.ref (hr h5 q0 0))], h5, 0, 0)))
            refine k_iald HG rfl K5 t6 rfl (fun _ => rfl) (?_ : G m1 _ (71, [(6, .inl (.int (a2 - y2))), (0, .inl (.ref q0)), (1, .inl (.int a1)), (2, .inl (.int a2)), (3, .inl (.int a3)), (4, .inl (.int a4)), (5, .inl (.int v1_5))], [.inl (.int (hv h5 (hr h5 q0 0) v1_5.toNatClampNeg))], h5, 0, 0))
            refine k_steps HG 1 (kb_le (x := (hv h5 (hr h5 q0 0) v1_5.toNatClampNeg)) (y := (0 : Int32)) ?_ ?_)
            · show G m1 _ (81, [(6, .inl (.int (a2 - y2))), (0, .inl (.ref q0)), (1, .inl (.int a1)), (2, .inl (.int a2)), (3, .inl (.int a3)), (4, .inl (.int a4)), (5, .inl (.int v1_5))], [], h5, 0, 0)
              refine k_steps HG 2 (zB_iff.mpr (?_ : G m1 _ (12, [(5, .inl (.int (v1_5 + (-1 : Int32)))), (6, .inl (.int (a2 - y2))), (0, .inl (.ref q0)), (1, .inl (.int a1)), (2, .inl (.int a2)), (3, .inl (.int a3)), (4, .inl (.int a4))], [], h5, 0, 0)))
              refine k_ext HG (L' := [(0, .inl (.ref q0)), (1, .inl (.int a1)), (2, .inl (.int a2)), (3, .inl (.int a3)), (4, .inl (.int a4)), (5, .inl (.int (v1_5 + (-1 : Int32)))), (6, .inl (.int (a2 - y2)))]) rfl rfl ⟨rfl, rfl, rfl, rfl, rfl, rfl, rfl, trivial⟩ ?_
              exact ih1 _ _ _ K5
            · show G m1 _ (74, [(6, .inl (.int (a2 - y2))), (0, .inl (.ref q0)), (1, .inl (.int a1)), (2, .inl (.int a2)), (3, .inl (.int a3)), (4, .inl (.int a4)), (5, .inl (.int v1_5))], [], h5, 0, 0)
              refine k_steps HG 3 (zB_iff.mpr (?_ : G m1 _ (78, [(6, .inl (.int (a2 - y2))), (0, .inl (.ref q0)), (1, .inl (.int a1)), (2, .inl (.int a2)), (3, .inl (.int a3)), (4, .inl (.int a4)), (5, .inl (.int v1_5))], [.inl (.int v1_5), .inl (.int a1), .inl (.ref q0)], h5, 0, 0)))
              refine k_cVH HG (E' := ze_X3_mark) (Or.inl ⟨rfl, rfl⟩) hsc rfl rfl rfl rfl rfl K5 rfl (fun hh => x_X3_mark hsc K5.1 hq_q0 hh) (fun h7 K7 => (?_ : G m1 _ (81, [(6, .inl (.int (a2 - y2))), (0, .inl (.ref q0)), (1, .inl (.int a1)), (2, .inl (.int a2)), (3, .inl (.int a3)), (4, .inl (.int a4)), (5, .inl (.int v1_5))], [], h7, 0, 0)))
              refine k_steps HG 2 (zB_iff.mpr (?_ : G m1 _ (12, [(5, .inl (.int (v1_5 + (-1 : Int32)))), (6, .inl (.int (a2 - y2))), (0, .inl (.ref q0)), (1, .inl (.int a1)), (2, .inl (.int a2)), (3, .inl (.int a3)), (4, .inl (.int a4))], [], h7, 0, 0)))
              refine k_ext HG (L' := [(0, .inl (.ref q0)), (1, .inl (.int a1)), (2, .inl (.int a2)), (3, .inl (.int a3)), (4, .inl (.int a4)), (5, .inl (.int (v1_5 + (-1 : Int32)))), (6, .inl (.int (a2 - y2)))]) rfl rfl ⟨rfl, rfl, rfl, rfl, rfl, rfl, rfl, trivial⟩ ?_
              exact ih1 _ _ _ K7
  refine k_ext HG (L' := [(0, .inl (.ref q0)), (1, .inl (.int a1)), (2, .inl (.int a2)), (3, .inl (.int a3)), (4, .inl (.int a4)), (5, .inl (.int (jmin (hv h q0 4) (255 : Int32)))), (6, .inl (.int (0 : Int32)))]) rfl rfl ⟨rfl, rfl, rfl, rfl, rfl, rfl, trivial⟩ ?_
  exact lp1 m (Nat.le_refl _) _ _ _ K
