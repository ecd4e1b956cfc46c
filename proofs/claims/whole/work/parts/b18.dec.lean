def W_X5_dearest : List (Nat × Nat) := [(30, 1000)]
noncomputable def B_X5_dearest_19 (h : zH) (c0 : Nat) (c1 : Int32) (s : (Int32 × Int32)) : (Int32 × Int32) ⊕ (Int32 × zH) := (if s.2 < (hv h c0 17) then (if (hv h (hr h c0 22) s.2.toNatClampNeg) = (-1 : Int32) then (if s.1 = (-1 : Int32) then (Sum.inl (s.2, (s.2 + (1 : Int32)))) else (if (hv h (hr h (hr h c0 25) c1.toNatClampNeg) s.1.toNatClampNeg) < (hv h (hr h (hr h c0 25) c1.toNatClampNeg) s.2.toNatClampNeg) then (Sum.inl (s.2, (s.2 + (1 : Int32)))) else (Sum.inl (s.1, (s.2 + (1 : Int32)))))) else (Sum.inl (s.1, (s.2 + (1 : Int32))))) else (Sum.inr (s.1, h)))
noncomputable def F_X5_dearest (h : zH) (q0 : Nat) (a1 : Int32) : Int32 × zH := (letf (F_X5_isBuyer h q0 a1) (fun y1 => (if y1 = (0 : Int32) then (letf (F_X5_refuse h q0 (-2 : Int32)) (fun y8 => (y8.1, y8.2))) else (fx (B_X5_dearest_19 h q0 a1) (0, []) ((-1 : Int32), (0 : Int32))))))
theorem x_X5_dearest {scr : List zV} {T : List Nat} {h : zH} {q0 : Nat} {a1 : Int32} (hsc : cT scr) (K : hOK kty T h) (hq_q0 : T[q0]? = some 5) (hh : cH h) : xIH scr W_X5_dearest T T 171 [.inl (.ref q0), .inl (.int a1)] h (F_X5_dearest h q0 a1) := by
  refine xIH_intro (E := ze_X5_dearest) hsc rfl (cTb_ok rfl) hh (fun d r h' G HG Pf hR m => ?_)
  have K := kOK_refl (W := W_X5_dearest) K
  unfold F_X5_dearest
  show G m _ (0, [(0, .inl (.ref q0)), (1, .inl (.int a1))], [], h, 0, 0)
  refine k_steps HG 2 (zB_iff.mpr (?_ : G m _ (2, [(0, .inl (.ref q0)), (1, .inl (.int a1))], [.inl (.int a1), .inl (.ref q0)], h, 0, 0)))
  refine k_cVI HG (E' := ze_X5_isBuyer) (Or.inl ⟨rfl, rfl⟩) hsc rfl rfl rfl rfl rfl (fun hh => x_X5_isBuyer hsc K.1 hq_q0 hh) (fun y1 => (?_ : G m _ (5, [(0, .inl (.ref q0)), (1, .inl (.int a1))], [.inl (.int y1)], h, 0, 0)))
  refine k_steps HG 1 (kb_ne (x := y1) (y := (0 : Int32)) ?_ ?_)
  · show G m _ (15, [(0, .inl (.ref q0)), (1, .inl (.int a1))], [], h, 0, 0)
    refine k_steps HG 4 (zB_iff.mpr (?_ : G m _ (19, [(3, .inl (.int (0 : Int32))), (2, .inl (.int (-1 : Int32))), (0, .inl (.ref q0)), (1, .inl (.int a1))], [], h, 0, 0)))
    have lp2 : ∀ m2, m2 ≤ m → ∀ (v2_2 : Int32) (v2_3 : Int32), G m2 (Pf (fx (B_X5_dearest_19 h q0 a1) (0, []) (v2_2, v2_3))) (19, [(0, .inl (.ref q0)), (1, .inl (.int a1)), (2, .inl (.int v2_2)), (3, .inl (.int v2_3))], [], h, 0, 0) := by
      intro m2
      induction m2 with
      | zero =>
        intros
        exact k_zero HG
      | succ m2 ih2 =>
        intro le2 v2_2 v2_3
        have le2 := Nat.le_of_succ_le le2
        have ih2 := ih2 le2
        refine k_fx ?_
        rw [B_X5_dearest_19]
        refine k_first HG 1 (zB_iff.mpr (?_ : G m2 _ (21, [(0, .inl (.ref q0)), (1, .inl (.int a1)), (2, .inl (.int v2_2)), (3, .inl (.int v2_3))], [.inl (.ref q0), .inl (.int v2_3)], h, 0, 0)))
        refine k_getI HG rfl K hq_q0 rfl (Nat.le_of_ble_eq_true rfl) rfl (?_ : G m2 _ (24, [(0, .inl (.ref q0)), (1, .inl (.int a1)), (2, .inl (.int v2_2)), (3, .inl (.int v2_3))], [.inl (.int (hv h q0 17)), .inl (.int v2_3)], h, 0, 0))
        refine k_steps HG 1 (kb_ge (x := v2_3) (y := (hv h q0 17)) ?_ ?_)
        · show G m2 _ (69, [(0, .inl (.ref q0)), (1, .inl (.int a1)), (2, .inl (.int v2_2)), (3, .inl (.int v2_3))], [], h, 0, 0)
          refine k_steps HG 1 (zB_iff.mpr (?_ : G m2 _ (70, [(0, .inl (.ref q0)), (1, .inl (.int a1)), (2, .inl (.int v2_2)), (3, .inl (.int v2_3))], [.inl (.int v2_2)], h, 0, 0)))
          exact k_reti HG rfl rfl (fun e1 e2 => hR _ _ e1 e2 K)
        · show G m2 _ (27, [(0, .inl (.ref q0)), (1, .inl (.int a1)), (2, .inl (.int v2_2)), (3, .inl (.int v2_3))], [], h, 0, 0)
          refine k_steps HG 1 (zB_iff.mpr (?_ : G m2 _ (28, [(0, .inl (.ref q0)), (1, .inl (.int a1)), (2, .inl (.int v2_2)), (3, .inl (.int v2_3))], [.inl (.ref q0)], h, 0, 0)))
          refine k_getR HG rfl K hq_q0 rfl (Nat.le_of_ble_eq_true rfl) rfl rfl (fun t3 => (?_ : G m2 _ (31, [(0, .inl (.ref q0)), (1, .inl (.int a1)), (2, .inl (.int v2_2)), (3, .inl (.int v2_3))], [.inl (.ref (hr h q0 22))], h, 0, 0)))
          refine k_steps HG 1 (zB_iff.mpr (?_ : G m2 _ (32, [(0, .inl (.ref q0)), (1, .inl (.int a1)), (2, .inl (.int v2_2)), (3, .inl (.int v2_3))], [.inl (.int v2_3), .inl (.ref (hr h q0 22))], h, 0, 0)))
          refine k_iald HG rfl K t3 rfl (fun _ => rfl) (?_ : G m2 _ (33, [(0, .inl (.ref q0)), (1, .inl (.int a1)), (2, .inl (.int v2_2)), (3, .inl (.int v2_3))], [.inl (.int (hv h (hr h q0 22) v2_3.toNatClampNeg))], h, 0, 0))
          refine k_steps HG 2 (kb_ne (x := (hv h (hr h q0 22) v2_3.toNatClampNeg)) (y := (-1 : Int32)) ?_ ?_)
          · show G m2 _ (63, [(0, .inl (.ref q0)), (1, .inl (.int a1)), (2, .inl (.int v2_2)), (3, .inl (.int v2_3))], [], h, 0, 0)
            refine k_steps HG 2 (zB_iff.mpr (?_ : G m2 _ (19, [(3, .inl (.int (v2_3 + (1 : Int32)))), (0, .inl (.ref q0)), (1, .inl (.int a1)), (2, .inl (.int v2_2))], [], h, 0, 0)))
            refine k_ext HG (L' := [(0, .inl (.ref q0)), (1, .inl (.int a1)), (2, .inl (.int v2_2)), (3, .inl (.int (v2_3 + (1 : Int32))))]) rfl rfl ⟨rfl, rfl, rfl, rfl, trivial⟩ ?_
            exact ih2 _ _
          · show G m2 _ (37, [(0, .inl (.ref q0)), (1, .inl (.int a1)), (2, .inl (.int v2_2)), (3, .inl (.int v2_3))], [], h, 0, 0)
            refine k_steps HG 3 (kb_eq (x := v2_2) (y := (-1 : Int32)) ?_ ?_)
            · show G m2 _ (61, [(0, .inl (.ref q0)), (1, .inl (.int a1)), (2, .inl (.int v2_2)), (3, .inl (.int v2_3))], [], h, 0, 0)
              refine k_steps HG 4 (zB_iff.mpr (?_ : G m2 _ (19, [(3, .inl (.int (v2_3 + (1 : Int32)))), (2, .inl (.int v2_3)), (0, .inl (.ref q0)), (1, .inl (.int a1))], [], h, 0, 0)))
              refine k_ext HG (L' := [(0, .inl (.ref q0)), (1, .inl (.int a1)), (2, .inl (.int v2_3)), (3, .inl (.int (v2_3 + (1 : Int32))))]) rfl rfl ⟨rfl, rfl, rfl, rfl, trivial⟩ ?_
              exact ih2 _ _
            · show G m2 _ (42, [(0, .inl (.ref q0)), (1, .inl (.int a1)), (2, .inl (.int v2_2)), (3, .inl (.int v2_3))], [], h, 0, 0)
              refine k_steps HG 1 (zB_iff.mpr (?_ : G m2 _ (43, [(0, .inl (.ref q0)), (1, .inl (.int a1)), (2, .inl (.int v2_2)), (3, .inl (.int v2_3))], [.inl (.ref q0)], h, 0, 0)))
              refine k_getR HG rfl K hq_q0 rfl (Nat.le_of_ble_eq_true rfl) rfl rfl (fun t4 => (?_ : G m2 _ (46, [(0, .inl (.ref q0)), (1, .inl (.int a1)), (2, .inl (.int v2_2)), (3, .inl (.int v2_3))], [.inl (.ref (hr h q0 25))], h, 0, 0)))
              refine k_steps HG 1 (zB_iff.mpr (?_ : G m2 _ (47, [(0, .inl (.ref q0)), (1, .inl (.int a1)), (2, .inl (.int v2_2)), (3, .inl (.int v2_3))], [.inl (.int a1), .inl (.ref (hr h q0 25))], h, 0, 0)))
              refine k_aald HG rfl K t4 (fun _ => ⟨rfl, rfl⟩) (fun t5 => (?_ : G m2 _ (48, [(0, .inl (.ref q0)), (1, .inl (.int a1)), (2, .inl (.int v2_2)), (3, .inl (.int v2_3))], [.inl (.ref (hr h (hr h q0 25) a1.toNatClampNeg))], h, 0, 0)))
              refine k_steps HG 1 (zB_iff.mpr (?_ : G m2 _ (49, [(0, .inl (.ref q0)), (1, .inl (.int a1)), (2, .inl (.int v2_2)), (3, .inl (.int v2_3))], [.inl (.int v2_3), .inl (.ref (hr h (hr h q0 25) a1.toNatClampNeg))], h, 0, 0)))
              refine k_iald HG rfl K t5 rfl (fun _ => rfl) (?_ : G m2 _ (50, [(0, .inl (.ref q0)), (1, .inl (.int a1)), (2, .inl (.int v2_2)), (3, .inl (.int v2_3))], [.inl (.int (hv h (hr h (hr h q0 25) a1.toNatClampNeg) v2_3.toNatClampNeg))], h, 0, 0))
              refine k_steps HG 1 (zB_iff.mpr (?_ : G m2 _ (51, [(0, .inl (.ref q0)), (1, .inl (.int a1)), (2, .inl (.int v2_2)), (3, .inl (.int v2_3))], [.inl (.ref q0), .inl (.int (hv h (hr h (hr h q0 25) a1.toNatClampNeg) v2_3.toNatClampNeg))], h, 0, 0)))
              refine k_getR HG rfl K hq_q0 rfl (Nat.le_of_ble_eq_true rfl) rfl rfl (fun t6 => (?_ : G m2 _ (54, [(0, .inl (.ref q0)), (1, .inl (.int a1)), (2, .inl (.int v2_2)), (3, .inl (.int v2_3))], [.inl (.ref (hr h q0 25)), .inl (.int (hv h (hr h (hr h q0 25) a1.toNatClampNeg) v2_3.toNatClampNeg))], h, 0, 0)))
              refine k_steps HG 1 (zB_iff.mpr (?_ : G m2 _ (55, [(0, .inl (.ref q0)), (1, .inl (.int a1)), (2, .inl (.int v2_2)), (3, .inl (.int v2_3))], [.inl (.int a1), .inl (.ref (hr h q0 25)), .inl (.int (hv h (hr h (hr h q0 25) a1.toNatClampNeg) v2_3.toNatClampNeg))], h, 0, 0)))
              refine k_aald HG rfl K t6 (fun _ => ⟨rfl, rfl⟩) (fun t7 => (?_ : G m2 _ (56, [(0, .inl (.ref q0)), (1, .inl (.int a1)), (2, .inl (.int v2_2)), (3, .inl (.int v2_3))], [.inl (.ref (hr h (hr h q0 25) a1.toNatClampNeg)), .inl (.int (hv h (hr h (hr h q0 25) a1.toNatClampNeg) v2_3.toNatClampNeg))], h, 0, 0)))
              refine k_steps HG 1 (zB_iff.mpr (?_ : G m2 _ (57, [(0, .inl (.ref q0)), (1, .inl (.int a1)), (2, .inl (.int v2_2)), (3, .inl (.int v2_3))], [.inl (.int v2_2), .inl (.ref (hr h (hr h q0 25) a1.toNatClampNeg)), .inl (.int (hv h (hr h (hr h q0 25) a1.toNatClampNeg) v2_3.toNatClampNeg))], h, 0, 0)))
              refine k_iald HG rfl K t7 rfl (fun _ => rfl) (?_ : G m2 _ (58, [(0, .inl (.ref q0)), (1, .inl (.int a1)), (2, .inl (.int v2_2)), (3, .inl (.int v2_3))], [.inl (.int (hv h (hr h (hr h q0 25) a1.toNatClampNeg) v2_2.toNatClampNeg)), .inl (.int (hv h (hr h (hr h q0 25) a1.toNatClampNeg) v2_3.toNatClampNeg))], h, 0, 0))
              refine k_steps HG 1 (kb_le (x := (hv h (hr h (hr h q0 25) a1.toNatClampNeg) v2_3.toNatClampNeg)) (y := (hv h (hr h (hr h q0 25) a1.toNatClampNeg) v2_2.toNatClampNeg)) ?_ ?_)
              · show G m2 _ (63, [(0, .inl (.ref q0)), (1, .inl (.int a1)), (2, .inl (.int v2_2)), (3, .inl (.int v2_3))], [], h, 0, 0)
                refine k_steps HG 2 (zB_iff.mpr (?_ : G m2 _ (19, [(3, .inl (.int (v2_3 + (1 : Int32)))), (0, .inl (.ref q0)), (1, .inl (.int a1)), (2, .inl (.int v2_2))], [], h, 0, 0)))
                refine k_ext HG (L' := [(0, .inl (.ref q0)), (1, .inl (.int a1)), (2, .inl (.int v2_2)), (3, .inl (.int (v2_3 + (1 : Int32))))]) rfl rfl ⟨rfl, rfl, rfl, rfl, trivial⟩ ?_
                exact ih2 _ _
              · show G m2 _ (61, [(0, .inl (.ref q0)), (1, .inl (.int a1)), (2, .inl (.int v2_2)), (3, .inl (.int v2_3))], [], h, 0, 0)
                refine k_steps HG 4 (zB_iff.mpr (?_ : G m2 _ (19, [(3, .inl (.int (v2_3 + (1 : Int32)))), (2, .inl (.int v2_3)), (0, .inl (.ref q0)), (1, .inl (.int a1))], [], h, 0, 0)))
                refine k_ext HG (L' := [(0, .inl (.ref q0)), (1, .inl (.int a1)), (2, .inl (.int v2_3)), (3, .inl (.int (v2_3 + (1 : Int32))))]) rfl rfl ⟨rfl, rfl, rfl, rfl, trivial⟩ ?_
                exact ih2 _ _
    refine k_ext HG (L' := [(0, .inl (.ref q0)), (1, .inl (.int a1)), (2, .inl (.int (-1 : Int32))), (3, .inl (.int (0 : Int32)))]) rfl rfl ⟨rfl, rfl, rfl, rfl, trivial⟩ ?_
    exact lp2 m (Nat.le_refl _) _ _
  · show G m _ (8, [(0, .inl (.ref q0)), (1, .inl (.int a1))], [], h, 0, 0)
    refine k_steps HG 2 (zB_iff.mpr (?_ : G m _ (11, [(0, .inl (.ref q0)), (1, .inl (.int a1))], [.inl (.int (-2 : Int32)), .inl (.ref q0)], h, 0, 0)))
    refine k_cVIH HG (E' := ze_X5_refuse) (Or.inl ⟨rfl, rfl⟩) hsc rfl rfl rfl rfl rfl K rfl (fun hh => x_X5_refuse hsc K.1 hq_q0 hh) (fun y8 K8 => (?_ : G m _ (14, [(0, .inl (.ref q0)), (1, .inl (.int a1))], [.inl (.int y8.1)], y8.2, 0, 0)))
    exact k_reti HG rfl rfl (fun e1 e2 => hR _ _ e1 e2 K8)
noncomputable def B_X5_drawableMany_4 (h : zH) (c0 : Nat) (s : (Int32 × Int32)) : (Int32 × Int32) ⊕ (Int32) := (if (hv h c0 9) < s.2 then (Sum.inr s.1) else (letf (F_X5_canDraw h c0 s.2) (fun y1001 => (if y1001 = (0 : Int32) then (Sum.inl ((s.1 + (0 : Int32)), (s.2 + (1 : Int32)))) else (Sum.inl ((s.1 + (1 : Int32)), (s.2 + (1 : Int32))))))))
noncomputable def F_X5_drawableMany (h : zH) (q0 : Nat) : Int32 := (fx (B_X5_drawableMany_4 h q0) 0 ((0 : Int32), (1 : Int32)))
theorem x_X5_drawableMany {scr : List zV} {T : List Nat} {h : zH} {q0 : Nat} (hsc : cT scr) (K : hOK kty T h) (hq_q0 : T[q0]? = some 5) (hh : cH h) : xI scr 173 [.inl (.ref q0)] h (F_X5_drawableMany h q0) := by
  refine xI_intro (E := ze_X5_drawableMany) hsc rfl (cTb_ok rfl) hh (fun d r h' G HG Pf hR m => ?_)
  have K := kOK_refl (W := []) K
  unfold F_X5_drawableMany
  show G m _ (0, [(0, .inl (.ref q0))], [], h, 0, 0)
  refine k_steps HG 4 (zB_iff.mpr (?_ : G m _ (4, [(2, .inl (.int (1 : Int32))), (1, .inl (.int (0 : Int32))), (0, .inl (.ref q0))], [], h, 0, 0)))
  have lp1 : ∀ m1, m1 ≤ m → ∀ (v1_1 : Int32) (v1_2 : Int32), G m1 (Pf (fx (B_X5_drawableMany_4 h q0) 0 (v1_1, v1_2))) (4, [(0, .inl (.ref q0)), (1, .inl (.int v1_1)), (2, .inl (.int v1_2))], [], h, 0, 0) := by
    intro m1
    induction m1 with
    | zero =>
      intros
      exact k_zero HG
    | succ m1 ih1 =>
      intro le1 v1_1 v1_2
      have le1 := Nat.le_of_succ_le le1
      have ih1 := ih1 le1
      refine k_fx ?_
      rw [B_X5_drawableMany_4]
      refine k_first HG 1 (zB_iff.mpr (?_ : G m1 _ (6, [(0, .inl (.ref q0)), (1, .inl (.int v1_1)), (2, .inl (.int v1_2))], [.inl (.ref q0), .inl (.int v1_2)], h, 0, 0)))
      refine k_getI HG rfl K hq_q0 rfl (Nat.le_of_ble_eq_true rfl) rfl (?_ : G m1 _ (9, [(0, .inl (.ref q0)), (1, .inl (.int v1_1)), (2, .inl (.int v1_2))], [.inl (.int (hv h q0 9)), .inl (.int v1_2)], h, 0, 0))
      refine k_steps HG 1 (kb_gt (x := v1_2) (y := (hv h q0 9)) ?_ ?_)
      · show G m1 _ (34, [(0, .inl (.ref q0)), (1, .inl (.int v1_1)), (2, .inl (.int v1_2))], [], h, 0, 0)
        refine k_steps HG 1 (zB_iff.mpr (?_ : G m1 _ (35, [(0, .inl (.ref q0)), (1, .inl (.int v1_1)), (2, .inl (.int v1_2))], [.inl (.int v1_1)], h, 0, 0)))
        exact k_reti HG rfl rfl (fun e1 e2 => hR _ e1 e2)
      · show G m1 _ (12, [(0, .inl (.ref q0)), (1, .inl (.int v1_1)), (2, .inl (.int v1_2))], [], h, 0, 0)
        refine k_steps HG 3 (zB_iff.mpr (?_ : G m1 _ (15, [(0, .inl (.ref q0)), (1, .inl (.int v1_1)), (2, .inl (.int v1_2))], [.inl (.int v1_2), .inl (.ref q0), .inl (.int v1_1)], h, 0, 0)))
        refine k_cVI HG (E' := ze_X5_canDraw) (Or.inl ⟨rfl, rfl⟩) hsc rfl rfl rfl rfl rfl (fun hh => x_X5_canDraw hsc K.1 hq_q0 hh) (fun y2 => (?_ : G m1 _ (18, [(0, .inl (.ref q0)), (1, .inl (.int v1_1)), (2, .inl (.int v1_2))], [.inl (.int y2), .inl (.int v1_1)], h, 0, 0)))
        refine k_steps HG 1 (kb_eq (x := y2) (y := (0 : Int32)) ?_ ?_)
        · show G m1 _ (25, [(0, .inl (.ref q0)), (1, .inl (.int v1_1)), (2, .inl (.int v1_2))], [.inl (.int v1_1)], h, 0, 0)
          refine k_steps HG 5 (zB_iff.mpr (?_ : G m1 _ (4, [(2, .inl (.int (v1_2 + (1 : Int32)))), (1, .inl (.int (v1_1 + (0 : Int32)))), (0, .inl (.ref q0))], [], h, 0, 0)))
          refine k_ext HG (L' := [(0, .inl (.ref q0)), (1, .inl (.int (v1_1 + (0 : Int32)))), (2, .inl (.int (v1_2 + (1 : Int32))))]) rfl rfl ⟨rfl, rfl, rfl, trivial⟩ ?_
          exact ih1 _ _
        · show G m1 _ (21, [(0, .inl (.ref q0)), (1, .inl (.int v1_1)), (2, .inl (.int v1_2))], [.inl (.int v1_1)], h, 0, 0)
          refine k_steps HG 6 (zB_iff.mpr (?_ : G m1 _ (4, [(2, .inl (.int (v1_2 + (1 : Int32)))), (1, .inl (.int (v1_1 + (1 : Int32)))), (0, .inl (.ref q0))], [], h, 0, 0)))
          refine k_ext HG (L' := [(0, .inl (.ref q0)), (1, .inl (.int (v1_1 + (1 : Int32)))), (2, .inl (.int (v1_2 + (1 : Int32))))]) rfl rfl ⟨rfl, rfl, rfl, trivial⟩ ?_
          exact ih1 _ _
  refine k_ext HG (L' := [(0, .inl (.ref q0)), (1, .inl (.int (0 : Int32))), (2, .inl (.int (1 : Int32)))]) rfl rfl ⟨rfl, rfl, rfl, trivial⟩ ?_
  exact lp1 m (Nat.le_refl _) _ _
def W_X5_fondest : List (Nat × Nat) := [(30, 1000)]
noncomputable def B_X5_fondest_33 (h : zH) (c0 : Nat) (c1 : Int32) (s : (Int32 × Int32)) : (Int32 × Int32) ⊕ (Int32 × zH) := (if s.2 < (hv h c0 23) then (if (hv h (hr h (hr h c0 25) s.1.toNatClampNeg) c1.toNatClampNeg) < (hv h (hr h (hr h c0 25) s.2.toNatClampNeg) c1.toNatClampNeg) then (Sum.inl (s.2, (s.2 + (1 : Int32)))) else (Sum.inl (s.1, (s.2 + (1 : Int32))))) else (Sum.inr (s.1, h)))
noncomputable def F_X5_fondest (h : zH) (q0 : Nat) (a1 : Int32) : Int32 × zH := (letf (F_X5_isThing h q0 a1) (fun y1 => (if y1 = (0 : Int32) then (letf (F_X5_refuse h q0 (-2 : Int32)) (fun y8 => (y8.1, y8.2))) else (if (hv h q0 23) = (0 : Int32) then (letf (F_X5_refuse h q0 (-5 : Int32)) (fun y7 => (y7.1, y7.2))) else (fx (B_X5_fondest_33 h q0 a1) (0, []) ((0 : Int32), (1 : Int32)))))))
theorem x_X5_fondest {scr : List zV} {T : List Nat} {h : zH} {q0 : Nat} {a1 : Int32} (hsc : cT scr) (K : hOK kty T h) (hq_q0 : T[q0]? = some 5) (hh : cH h) : xIH scr W_X5_fondest T T 181 [.inl (.ref q0), .inl (.int a1)] h (F_X5_fondest h q0 a1) := by
  refine xIH_intro (E := ze_X5_fondest) hsc rfl (cTb_ok rfl) hh (fun d r h' G HG Pf hR m => ?_)
  have K := kOK_refl (W := W_X5_fondest) K
  unfold F_X5_fondest
  show G m _ (0, [(0, .inl (.ref q0)), (1, .inl (.int a1))], [], h, 0, 0)
  refine k_steps HG 2 (zB_iff.mpr (?_ : G m _ (2, [(0, .inl (.ref q0)), (1, .inl (.int a1))], [.inl (.int a1), .inl (.ref q0)], h, 0, 0)))
  refine k_cVI HG (E' := ze_X5_isThing) (Or.inl ⟨rfl, rfl⟩) hsc rfl rfl rfl rfl rfl (fun hh => x_X5_isThing hsc K.1 hq_q0 hh) (fun y1 => (?_ : G m _ (5, [(0, .inl (.ref q0)), (1, .inl (.int a1))], [.inl (.int y1)], h, 0, 0)))
  refine k_steps HG 1 (kb_ne (x := y1) (y := (0 : Int32)) ?_ ?_)
  · show G m _ (15, [(0, .inl (.ref q0)), (1, .inl (.int a1))], [], h, 0, 0)
    refine k_steps HG 1 (zB_iff.mpr (?_ : G m _ (16, [(0, .inl (.ref q0)), (1, .inl (.int a1))], [.inl (.ref q0)], h, 0, 0)))
    refine k_getI HG rfl K hq_q0 rfl (Nat.le_of_ble_eq_true rfl) rfl (?_ : G m _ (19, [(0, .inl (.ref q0)), (1, .inl (.int a1))], [.inl (.int (hv h q0 23))], h, 0, 0))
    refine k_steps HG 1 (kb_ne (x := (hv h q0 23)) (y := (0 : Int32)) ?_ ?_)
    · show G m _ (29, [(0, .inl (.ref q0)), (1, .inl (.int a1))], [], h, 0, 0)
      refine k_steps HG 4 (zB_iff.mpr (?_ : G m _ (33, [(3, .inl (.int (1 : Int32))), (2, .inl (.int (0 : Int32))), (0, .inl (.ref q0)), (1, .inl (.int a1))], [], h, 0, 0)))
      have lp2 : ∀ m2, m2 ≤ m → ∀ (v2_2 : Int32) (v2_3 : Int32), G m2 (Pf (fx (B_X5_fondest_33 h q0 a1) (0, []) (v2_2, v2_3))) (33, [(0, .inl (.ref q0)), (1, .inl (.int a1)), (2, .inl (.int v2_2)), (3, .inl (.int v2_3))], [], h, 0, 0) := by
        intro m2
        induction m2 with
        | zero =>
          intros
          exact k_zero HG
        | succ m2 ih2 =>
          intro le2 v2_2 v2_3
          have le2 := Nat.le_of_succ_le le2
          have ih2 := ih2 le2
          refine k_fx ?_
          rw [B_X5_fondest_33]
          refine k_first HG 1 (zB_iff.mpr (?_ : G m2 _ (35, [(0, .inl (.ref q0)), (1, .inl (.int a1)), (2, .inl (.int v2_2)), (3, .inl (.int v2_3))], [.inl (.ref q0), .inl (.int v2_3)], h, 0, 0)))
          refine k_getI HG rfl K hq_q0 rfl (Nat.le_of_ble_eq_true rfl) rfl (?_ : G m2 _ (38, [(0, .inl (.ref q0)), (1, .inl (.int a1)), (2, .inl (.int v2_2)), (3, .inl (.int v2_3))], [.inl (.int (hv h q0 23)), .inl (.int v2_3)], h, 0, 0))
          refine k_steps HG 1 (kb_ge (x := v2_3) (y := (hv h q0 23)) ?_ ?_)
          · show G m2 _ (72, [(0, .inl (.ref q0)), (1, .inl (.int a1)), (2, .inl (.int v2_2)), (3, .inl (.int v2_3))], [], h, 0, 0)
            refine k_steps HG 1 (zB_iff.mpr (?_ : G m2 _ (73, [(0, .inl (.ref q0)), (1, .inl (.int a1)), (2, .inl (.int v2_2)), (3, .inl (.int v2_3))], [.inl (.int v2_2)], h, 0, 0)))
            exact k_reti HG rfl rfl (fun e1 e2 => hR _ _ e1 e2 K)
          · show G m2 _ (41, [(0, .inl (.ref q0)), (1, .inl (.int a1)), (2, .inl (.int v2_2)), (3, .inl (.int v2_3))], [], h, 0, 0)
            refine k_steps HG 1 (zB_iff.mpr (?_ : G m2 _ (42, [(0, .inl (.ref q0)), (1, .inl (.int a1)), (2, .inl (.int v2_2)), (3, .inl (.int v2_3))], [.inl (.ref q0)], h, 0, 0)))
            refine k_getR HG rfl K hq_q0 rfl (Nat.le_of_ble_eq_true rfl) rfl rfl (fun t3 => (?_ : G m2 _ (45, [(0, .inl (.ref q0)), (1, .inl (.int a1)), (2, .inl (.int v2_2)), (3, .inl (.int v2_3))], [.inl (.ref (hr h q0 25))], h, 0, 0)))
            refine k_steps HG 1 (zB_iff.mpr (?_ : G m2 _ (46, [(0, .inl (.ref q0)), (1, .inl (.int a1)), (2, .inl (.int v2_2)), (3, .inl (.int v2_3))], [.inl (.int v2_3), .inl (.ref (hr h q0 25))], h, 0, 0)))
            refine k_aald HG rfl K t3 (fun _ => ⟨rfl, rfl⟩) (fun t4 => (?_ : G m2 _ (47, [(0, .inl (.ref q0)), (1, .inl (.int a1)), (2, .inl (.int v2_2)), (3, .inl (.int v2_3))], [.inl (.ref (hr h (hr h q0 25) v2_3.toNatClampNeg))], h, 0, 0)))
            refine k_steps HG 1 (zB_iff.mpr (?_ : G m2 _ (48, [(0, .inl (.ref q0)), (1, .inl (.int a1)), (2, .inl (.int v2_2)), (3, .inl (.int v2_3))], [.inl (.int a1), .inl (.ref (hr h (hr h q0 25) v2_3.toNatClampNeg))], h, 0, 0)))
            refine k_iald HG rfl K t4 rfl (fun _ => rfl) (?_ : G m2 _ (49, [(0, .inl (.ref q0)), (1, .inl (.int a1)), (2, .inl (.int v2_2)), (3, .inl (.int v2_3))], [.inl (.int (hv h (hr h (hr h q0 25) v2_3.toNatClampNeg) a1.toNatClampNeg))], h, 0, 0))
            refine k_steps HG 1 (zB_iff.mpr (?_ : G m2 _ (50, [(0, .inl (.ref q0)), (1, .inl (.int a1)), (2, .inl (.int v2_2)), (3, .inl (.int v2_3))], [.inl (.ref q0), .inl (.int (hv h (hr h (hr h q0 25) v2_3.toNatClampNeg) a1.toNatClampNeg))], h, 0, 0)))
            refine k_getR HG rfl K hq_q0 rfl (Nat.le_of_ble_eq_true rfl) rfl rfl (fun t5 => (?_ : G m2 _ (53, [(0, .inl (.ref q0)), (1, .inl (.int a1)), (2, .inl (.int v2_2)), (3, .inl (.int v2_3))], [.inl (.ref (hr h q0 25)), .inl (.int (hv h (hr h (hr h q0 25) v2_3.toNatClampNeg) a1.toNatClampNeg))], h, 0, 0)))
            refine k_steps HG 1 (zB_iff.mpr (?_ : G m2 _ (54, [(0, .inl (.ref q0)), (1, .inl (.int a1)), (2, .inl (.int v2_2)), (3, .inl (.int v2_3))], [.inl (.int v2_2), .inl (.ref (hr h q0 25)), .inl (.int (hv h (hr h (hr h q0 25) v2_3.toNatClampNeg) a1.toNatClampNeg))], h, 0, 0)))
            refine k_aald HG rfl K t5 (fun _ => ⟨rfl, rfl⟩) (fun t6 => (?_ : G m2 _ (55, [(0, .inl (.ref q0)), (1, .inl (.int a1)), (2, .inl (.int v2_2)), (3, .inl (.int v2_3))], [.inl (.ref (hr h (hr h q0 25) v2_2.toNatClampNeg)), .inl (.int (hv h (hr h (hr h q0 25) v2_3.toNatClampNeg) a1.toNatClampNeg))], h, 0, 0)))
            refine k_steps HG 1 (zB_iff.mpr (?_ : G m2 _ (56, [(0, .inl (.ref q0)), (1, .inl (.int a1)), (2, .inl (.int v2_2)), (3, .inl (.int v2_3))], [.inl (.int a1), .inl (.ref (hr h (hr h q0 25) v2_2.toNatClampNeg)), .inl (.int (hv h (hr h (hr h q0 25) v2_3.toNatClampNeg) a1.toNatClampNeg))], h, 0, 0)))
            refine k_iald HG rfl K t6 rfl (fun _ => rfl) (?_ : G m2 _ (57, [(0, .inl (.ref q0)), (1, .inl (.int a1)), (2, .inl (.int v2_2)), (3, .inl (.int v2_3))], [.inl (.int (hv h (hr h (hr h q0 25) v2_2.toNatClampNeg) a1.toNatClampNeg)), .inl (.int (hv h (hr h (hr h q0 25) v2_3.toNatClampNeg) a1.toNatClampNeg))], h, 0, 0))
            refine k_steps HG 1 (kb_le (x := (hv h (hr h (hr h q0 25) v2_3.toNatClampNeg) a1.toNatClampNeg)) (y := (hv h (hr h (hr h q0 25) v2_2.toNatClampNeg) a1.toNatClampNeg)) ?_ ?_)
            · show G m2 _ (64, [(0, .inl (.ref q0)), (1, .inl (.int a1)), (2, .inl (.int v2_2)), (3, .inl (.int v2_3))], [], h, 0, 0)
              refine k_steps HG 4 (zB_iff.mpr (?_ : G m2 _ (33, [(3, .inl (.int (v2_3 + (1 : Int32)))), (2, .inl (.int v2_2)), (0, .inl (.ref q0)), (1, .inl (.int a1))], [], h, 0, 0)))
              refine k_ext HG (L' := [(0, .inl (.ref q0)), (1, .inl (.int a1)), (2, .inl (.int v2_2)), (3, .inl (.int (v2_3 + (1 : Int32))))]) rfl rfl ⟨rfl, rfl, rfl, rfl, trivial⟩ ?_
              exact ih2 _ _
            · show G m2 _ (60, [(0, .inl (.ref q0)), (1, .inl (.int a1)), (2, .inl (.int v2_2)), (3, .inl (.int v2_3))], [], h, 0, 0)
              refine k_steps HG 5 (zB_iff.mpr (?_ : G m2 _ (33, [(3, .inl (.int (v2_3 + (1 : Int32)))), (2, .inl (.int v2_3)), (0, .inl (.ref q0)), (1, .inl (.int a1))], [], h, 0, 0)))
              refine k_ext HG (L' := [(0, .inl (.ref q0)), (1, .inl (.int a1)), (2, .inl (.int v2_3)), (3, .inl (.int (v2_3 + (1 : Int32))))]) rfl rfl ⟨rfl, rfl, rfl, rfl, trivial⟩ ?_
              exact ih2 _ _
      refine k_ext HG (L' := [(0, .inl (.ref q0)), (1, .inl (.int a1)), (2, .inl (.int (0 : Int32))), (3, .inl (.int (1 : Int32)))]) rfl rfl ⟨rfl, rfl, rfl, rfl, trivial⟩ ?_
      exact lp2 m (Nat.le_refl _) _ _
    · show G m _ (22, [(0, .inl (.ref q0)), (1, .inl (.int a1))], [], h, 0, 0)
      refine k_steps HG 2 (zB_iff.mpr (?_ : G m _ (25, [(0, .inl (.ref q0)), (1, .inl (.int a1))], [.inl (.int (-5 : Int32)), .inl (.ref q0)], h, 0, 0)))
      refine k_cVIH HG (E' := ze_X5_refuse) (Or.inl ⟨rfl, rfl⟩) hsc rfl rfl rfl rfl rfl K rfl (fun hh => x_X5_refuse hsc K.1 hq_q0 hh) (fun y7 K7 => (?_ : G m _ (28, [(0, .inl (.ref q0)), (1, .inl (.int a1))], [.inl (.int y7.1)], y7.2, 0, 0)))
      exact k_reti HG rfl rfl (fun e1 e2 => hR _ _ e1 e2 K7)
  · show G m _ (8, [(0, .inl (.ref q0)), (1, .inl (.int a1))], [], h, 0, 0)
    refine k_steps HG 2 (zB_iff.mpr (?_ : G m _ (11, [(0, .inl (.ref q0)), (1, .inl (.int a1))], [.inl (.int (-2 : Int32)), .inl (.ref q0)], h, 0, 0)))
    refine k_cVIH HG (E' := ze_X5_refuse) (Or.inl ⟨rfl, rfl⟩) hsc rfl rfl rfl rfl rfl K rfl (fun hh => x_X5_refuse hsc K.1 hq_q0 hh) (fun y8 K8 => (?_ : G m _ (14, [(0, .inl (.ref q0)), (1, .inl (.int a1))], [.inl (.int y8.1)], y8.2, 0, 0)))
    exact k_reti HG rfl rfl (fun e1 e2 => hR _ _ e1 e2 K8)
def W_X5_likes : List (Nat × Nat) := [(30, 1000), (39, 1000)]
noncomputable def F_X5_likes (h : zH) (q0 : Nat) (a1 : Int32) (a2 : Int32) (a3 : Int32) : Int32 × zH := (letf (F_X5_isBuyer h q0 a1) (fun y1 => (if y1 = (0 : Int32) then (letf (F_X5_refuse h q0 (-2 : Int32)) (fun y2 => (y2.1, y2.2))) else (letf (F_X5_isThing h q0 a2) (fun y3 => (if y3 = (0 : Int32) then (letf (F_X5_refuse h q0 (-2 : Int32)) (fun y4 => (y4.1, y4.2))) else (letf (F_X5_in (Int32.toInt64 a3) (0 : Int64) (999 : Int64)) (fun y5 => (if y5 = (0 : Int32) then (letf (F_X5_refuse h q0 (-2 : Int32)) (fun y11 => (y11.1, y11.2))) else (letf (hput h (hr h (hr h q0 25) a1.toNatClampNeg) a2.toNatClampNeg (.inl (.int a3))) (fun h10 => ((hv h (hr h (hr h q0 25) a1.toNatClampNeg) a2.toNatClampNeg), h10))))))))))))
theorem x_X5_likes {scr : List zV} {T : List Nat} {h : zH} {q0 : Nat} {a1 : Int32} {a2 : Int32} {a3 : Int32} (hsc : cT scr) (K : hOK kty T h) (hq_q0 : T[q0]? = some 5) (hh : cH h) : xIH scr W_X5_likes T T 197 [.inl (.ref q0), .inl (.int a1), .inl (.int a2), .inl (.int a3)] h (F_X5_likes h q0 a1 a2 a3) := by
  refine xIH_intro (E := ze_X5_likes) hsc rfl (cTb_ok rfl) hh (fun d r h' G HG Pf hR m => ?_)
  have K := kOK_refl (W := W_X5_likes) K
  unfold F_X5_likes
  show G m _ (0, [(0, .inl (.ref q0)), (1, .inl (.int a1)), (2, .inl (.int a2)), (3, .inl (.int a3))], [], h, 0, 0)
  refine k_steps HG 2 (zB_iff.mpr (?_ : G m _ (2, [(0, .inl (.ref q0)), (1, .inl (.int a1)), (2, .inl (.int a2)), (3, .inl (.int a3))], [.inl (.int a1), .inl (.ref q0)], h, 0, 0)))
  refine k_cVI HG (E' := ze_X5_isBuyer) (Or.inl ⟨rfl, rfl⟩) hsc rfl rfl rfl rfl rfl (fun hh => x_X5_isBuyer hsc K.1 hq_q0 hh) (fun y1 => (?_ : G m _ (5, [(0, .inl (.ref q0)), (1, .inl (.int a1)), (2, .inl (.int a2)), (3, .inl (.int a3))], [.inl (.int y1)], h, 0, 0)))
  refine k_steps HG 1 (kb_eq (x := y1) (y := (0 : Int32)) ?_ ?_)
  · show G m _ (28, [(0, .inl (.ref q0)), (1, .inl (.int a1)), (2, .inl (.int a2)), (3, .inl (.int a3))], [], h, 0, 0)
    refine k_steps HG 2 (zB_iff.mpr (?_ : G m _ (31, [(0, .inl (.ref q0)), (1, .inl (.int a1)), (2, .inl (.int a2)), (3, .inl (.int a3))], [.inl (.int (-2 : Int32)), .inl (.ref q0)], h, 0, 0)))
    refine k_cVIH HG (E' := ze_X5_refuse) (Or.inl ⟨rfl, rfl⟩) hsc rfl rfl rfl rfl rfl K rfl (fun hh => x_X5_refuse hsc K.1 hq_q0 hh) (fun y2 K2 => (?_ : G m _ (34, [(0, .inl (.ref q0)), (1, .inl (.int a1)), (2, .inl (.int a2)), (3, .inl (.int a3))], [.inl (.int y2.1)], y2.2, 0, 0)))
    exact k_reti HG rfl rfl (fun e1 e2 => hR _ _ e1 e2 K2)
  · show G m _ (8, [(0, .inl (.ref q0)), (1, .inl (.int a1)), (2, .inl (.int a2)), (3, .inl (.int a3))], [], h, 0, 0)
    refine k_steps HG 2 (zB_iff.mpr (?_ : G m _ (10, [(0, .inl (.ref q0)), (1, .inl (.int a1)), (2, .inl (.int a2)), (3, .inl (.int a3))], [.inl (.int a2), .inl (.ref q0)], h, 0, 0)))
    refine k_cVI HG (E' := ze_X5_isThing) (Or.inl ⟨rfl, rfl⟩) hsc rfl rfl rfl rfl rfl (fun hh => x_X5_isThing hsc K.1 hq_q0 hh) (fun y3 => (?_ : G m _ (13, [(0, .inl (.ref q0)), (1, .inl (.int a1)), (2, .inl (.int a2)), (3, .inl (.int a3))], [.inl (.int y3)], h, 0, 0)))
    refine k_steps HG 1 (kb_eq (x := y3) (y := (0 : Int32)) ?_ ?_)
    · show G m _ (28, [(0, .inl (.ref q0)), (1, .inl (.int a1)), (2, .inl (.int a2)), (3, .inl (.int a3))], [], h, 0, 0)
      refine k_steps HG 2 (zB_iff.mpr (?_ : G m _ (31, [(0, .inl (.ref q0)), (1, .inl (.int a1)), (2, .inl (.int a2)), (3, .inl (.int a3))], [.inl (.int (-2 : Int32)), .inl (.ref q0)], h, 0, 0)))
      refine k_cVIH HG (E' := ze_X5_refuse) (Or.inl ⟨rfl, rfl⟩) hsc rfl rfl rfl rfl rfl K rfl (fun hh => x_X5_refuse hsc K.1 hq_q0 hh) (fun y4 K4 => (?_ : G m _ (34, [(0, .inl (.ref q0)), (1, .inl (.int a1)), (2, .inl (.int a2)), (3, .inl (.int a3))], [.inl (.int y4.1)], y4.2, 0, 0)))
      exact k_reti HG rfl rfl (fun e1 e2 => hR _ _ e1 e2 K4)
    · show G m _ (16, [(0, .inl (.ref q0)), (1, .inl (.int a1)), (2, .inl (.int a2)), (3, .inl (.int a3))], [], h, 0, 0)
      refine k_steps HG 4 (zB_iff.mpr (?_ : G m _ (22, [(0, .inl (.ref q0)), (1, .inl (.int a1)), (2, .inl (.int a2)), (3, .inl (.int a3))], [.inl (.long (999 : Int64)), .inl (.long (0 : Int64)), .inl (.long (Int32.toInt64 a3))], h, 0, 0)))
      refine k_cSI HG (E' := ze_X5_in) (Or.inl rfl) hsc rfl rfl rfl rfl (fun hh => x_X5_in hsc hh) (fun y5 => (?_ : G m _ (25, [(0, .inl (.ref q0)), (1, .inl (.int a1)), (2, .inl (.int a2)), (3, .inl (.int a3))], [.inl (.int y5)], h, 0, 0)))
      refine k_steps HG 1 (kb_ne (x := y5) (y := (0 : Int32)) ?_ ?_)
      · show G m _ (35, [(0, .inl (.ref q0)), (1, .inl (.int a1)), (2, .inl (.int a2)), (3, .inl (.int a3))], [], h, 0, 0)
        refine k_steps HG 1 (zB_iff.mpr (?_ : G m _ (36, [(0, .inl (.ref q0)), (1, .inl (.int a1)), (2, .inl (.int a2)), (3, .inl (.int a3))], [.inl (.ref q0)], h, 0, 0)))
        refine k_getR HG rfl K hq_q0 rfl (Nat.le_of_ble_eq_true rfl) rfl rfl (fun t6 => (?_ : G m _ (39, [(0, .inl (.ref q0)), (1, .inl (.int a1)), (2, .inl (.int a2)), (3, .inl (.int a3))], [.inl (.ref (hr h q0 25))], h, 0, 0)))
        refine k_steps HG 1 (zB_iff.mpr (?_ : G m _ (40, [(0, .inl (.ref q0)), (1, .inl (.int a1)), (2, .inl (.int a2)), (3, .inl (.int a3))], [.inl (.int a1), .inl (.ref (hr h q0 25))], h, 0, 0)))
        refine k_aald HG rfl K t6 (fun _ => ⟨rfl, rfl⟩) (fun t7 => (?_ : G m _ (41, [(0, .inl (.ref q0)), (1, .inl (.int a1)), (2, .inl (.int a2)), (3, .inl (.int a3))], [.inl (.ref (hr h (hr h q0 25) a1.toNatClampNeg))], h, 0, 0)))
        refine k_steps HG 1 (zB_iff.mpr (?_ : G m _ (42, [(0, .inl (.ref q0)), (1, .inl (.int a1)), (2, .inl (.int a2)), (3, .inl (.int a3))], [.inl (.int a2), .inl (.ref (hr h (hr h q0 25) a1.toNatClampNeg))], h, 0, 0)))
        refine k_iald HG rfl K t7 rfl (fun _ => rfl) (?_ : G m _ (43, [(0, .inl (.ref q0)), (1, .inl (.int a1)), (2, .inl (.int a2)), (3, .inl (.int a3))], [.inl (.int (hv h (hr h (hr h q0 25) a1.toNatClampNeg) a2.toNatClampNeg))], h, 0, 0))
        refine k_steps HG 2 (zB_iff.mpr (?_ : G m _ (46, [(4, .inl (.int (hv h (hr h (hr h q0 25) a1.toNatClampNeg) a2.toNatClampNeg))), (0, .inl (.ref q0)), (1, .inl (.int a1)), (2, .inl (.int a2)), (3, .inl (.int a3))], [.inl (.ref q0)], h, 0, 0)))
        refine k_getR HG rfl K hq_q0 rfl (Nat.le_of_ble_eq_true rfl) rfl rfl (fun t8 => (?_ : G m _ (49, [(4, .inl (.int (hv h (hr h (hr h q0 25) a1.toNatClampNeg) a2.toNatClampNeg))), (0, .inl (.ref q0)), (1, .inl (.int a1)), (2, .inl (.int a2)), (3, .inl (.int a3))], [.inl (.ref (hr h q0 25))], h, 0, 0)))
        refine k_steps HG 1 (zB_iff.mpr (?_ : G m _ (50, [(4, .inl (.int (hv h (hr h (hr h q0 25) a1.toNatClampNeg) a2.toNatClampNeg))), (0, .inl (.ref q0)), (1, .inl (.int a1)), (2, .inl (.int a2)), (3, .inl (.int a3))], [.inl (.int a1), .inl (.ref (hr h q0 25))], h, 0, 0)))
        refine k_aald HG rfl K t8 (fun _ => ⟨rfl, rfl⟩) (fun t9 => (?_ : G m _ (51, [(4, .inl (.int (hv h (hr h (hr h q0 25) a1.toNatClampNeg) a2.toNatClampNeg))), (0, .inl (.ref q0)), (1, .inl (.int a1)), (2, .inl (.int a2)), (3, .inl (.int a3))], [.inl (.ref (hr h (hr h q0 25) a1.toNatClampNeg))], h, 0, 0)))
        refine k_steps HG 2 (zB_iff.mpr (?_ : G m _ (53, [(4, .inl (.int (hv h (hr h (hr h q0 25) a1.toNatClampNeg) a2.toNatClampNeg))), (0, .inl (.ref q0)), (1, .inl (.int a1)), (2, .inl (.int a2)), (3, .inl (.int a3))], [.inl (.int a3), .inl (.int a2), .inl (.ref (hr h (hr h q0 25) a1.toNatClampNeg))], h, 0, 0)))
        refine k_iast HG rfl K t9 rfl (fun _ => rfl) rfl (fun h10 K10 => (?_ : G m _ (54, [(4, .inl (.int (hv h (hr h (hr h q0 25) a1.toNatClampNeg) a2.toNatClampNeg))), (0, .inl (.ref q0)), (1, .inl (.int a1)), (2, .inl (.int a2)), (3, .inl (.int a3))], [], h10, 0, 0)))
        refine k_steps HG 1 (zB_iff.mpr (?_ : G m _ (56, [(4, .inl (.int (hv h (hr h (hr h q0 25) a1.toNatClampNeg) a2.toNatClampNeg))), (0, .inl (.ref q0)), (1, .inl (.int a1)), (2, .inl (.int a2)), (3, .inl (.int a3))], [.inl (.int (hv h (hr h (hr h q0 25) a1.toNatClampNeg) a2.toNatClampNeg))], h10, 0, 0)))
        exact k_reti HG rfl rfl (fun e1 e2 => hR _ _ e1 e2 K10)
      · show G m _ (28, [(0, .inl (.ref q0)), (1, .inl (.int a1)), (2, .inl (.int a2)), (3, .inl (.int a3))], [], h, 0, 0)
        refine k_steps HG 2 (zB_iff.mpr (?_ : G m _ (31, [(0, .inl (.ref q0)), (1, .inl (.int a1)), (2, .inl (.int a2)), (3, .inl (.int a3))], [.inl (.int (-2 : Int32)), .inl (.ref q0)], h, 0, 0)))
        refine k_cVIH HG (E' := ze_X5_refuse) (Or.inl ⟨rfl, rfl⟩) hsc rfl rfl rfl rfl rfl K rfl (fun hh => x_X5_refuse hsc K.1 hq_q0 hh) (fun y11 K11 => (?_ : G m _ (34, [(0, .inl (.ref q0)), (1, .inl (.int a1)), (2, .inl (.int a2)), (3, .inl (.int a3))], [.inl (.int y11.1)], y11.2, 0, 0)))
        exact k_reti HG rfl rfl (fun e1 e2 => hR _ _ e1 e2 K11)
def W_X5_noBook : List (Nat × Nat) := [(30, 1000)]
noncomputable def F_X5_noBook (h : zH) (q0 : Nat) (a1 : Int32) (a2 : Int32) : Int32 × zH := (letf (F_X5_in (Int32.toInt64 a1) (0 : Int64) (7 : Int64)) (fun y1 => (if y1 = (0 : Int32) then (letf (F_X5_refuse h q0 (-2 : Int32)) (fun y2 => (y2.1, y2.2))) else (letf (F_X5_in (Int32.toInt64 a2) (0 : Int64) (40 : Int64)) (fun y3 => (if y3 = (0 : Int32) then (letf (F_X5_refuse h q0 (-2 : Int32)) (fun y7 => (y7.1, y7.2))) else (letf (F_X5_noRow h q0 a1) (fun y4 => (if y4.1 = (0 : Int32) then (if (hv y4.2 (hr y4.2 q0 2) a1.toNatClampNeg) < a2 then (letf (F_X5_refuse y4.2 q0 (-2 : Int32)) (fun y6 => (y6.1, y6.2))) else ((0 : Int32), y4.2)) else (y4.1, y4.2))))))))))
theorem x_X5_noBook {scr : List zV} {T : List Nat} {h : zH} {q0 : Nat} {a1 : Int32} {a2 : Int32} (hsc : cT scr) (K : hOK kty T h) (hq_q0 : T[q0]? = some 5) (hh : cH h) : xIH scr W_X5_noBook T T 201 [.inl (.ref q0), .inl (.int a1), .inl (.int a2)] h (F_X5_noBook h q0 a1 a2) := by
  refine xIH_intro (E := ze_X5_noBook) hsc rfl (cTb_ok rfl) hh (fun d r h' G HG Pf hR m => ?_)
  have K := kOK_refl (W := W_X5_noBook) K
  unfold F_X5_noBook
  show G m _ (0, [(0, .inl (.ref q0)), (1, .inl (.int a1)), (2, .inl (.int a2))], [], h, 0, 0)
  refine k_steps HG 4 (zB_iff.mpr (?_ : G m _ (6, [(0, .inl (.ref q0)), (1, .inl (.int a1)), (2, .inl (.int a2))], [.inl (.long (7 : Int64)), .inl (.long (0 : Int64)), .inl (.long (Int32.toInt64 a1))], h, 0, 0)))
  refine k_cSI HG (E' := ze_X5_in) (Or.inl rfl) hsc rfl rfl rfl rfl (fun hh => x_X5_in hsc hh) (fun y1 => (?_ : G m _ (9, [(0, .inl (.ref q0)), (1, .inl (.int a1)), (2, .inl (.int a2))], [.inl (.int y1)], h, 0, 0)))
  refine k_steps HG 1 (kb_eq (x := y1) (y := (0 : Int32)) ?_ ?_)
  · show G m _ (24, [(0, .inl (.ref q0)), (1, .inl (.int a1)), (2, .inl (.int a2))], [], h, 0, 0)
    refine k_steps HG 2 (zB_iff.mpr (?_ : G m _ (27, [(0, .inl (.ref q0)), (1, .inl (.int a1)), (2, .inl (.int a2))], [.inl (.int (-2 : Int32)), .inl (.ref q0)], h, 0, 0)))
    refine k_cVIH HG (E' := ze_X5_refuse) (Or.inl ⟨rfl, rfl⟩) hsc rfl rfl rfl rfl rfl K rfl (fun hh => x_X5_refuse hsc K.1 hq_q0 hh) (fun y2 K2 => (?_ : G m _ (30, [(0, .inl (.ref q0)), (1, .inl (.int a1)), (2, .inl (.int a2))], [.inl (.int y2.1)], y2.2, 0, 0)))
    exact k_reti HG rfl rfl (fun e1 e2 => hR _ _ e1 e2 K2)
  · show G m _ (12, [(0, .inl (.ref q0)), (1, .inl (.int a1)), (2, .inl (.int a2))], [], h, 0, 0)
    refine k_steps HG 4 (zB_iff.mpr (?_ : G m _ (18, [(0, .inl (.ref q0)), (1, .inl (.int a1)), (2, .inl (.int a2))], [.inl (.long (40 : Int64)), .inl (.long (0 : Int64)), .inl (.long (Int32.toInt64 a2))], h, 0, 0)))
    refine k_cSI HG (E' := ze_X5_in) (Or.inl rfl) hsc rfl rfl rfl rfl (fun hh => x_X5_in hsc hh) (fun y3 => (?_ : G m _ (21, [(0, .inl (.ref q0)), (1, .inl (.int a1)), (2, .inl (.int a2))], [.inl (.int y3)], h, 0, 0)))
    refine k_steps HG 1 (kb_ne (x := y3) (y := (0 : Int32)) ?_ ?_)
    · show G m _ (31, [(0, .inl (.ref q0)), (1, .inl (.int a1)), (2, .inl (.int a2))], [], h, 0, 0)
      refine k_steps HG 2 (zB_iff.mpr (?_ : G m _ (33, [(0, .inl (.ref q0)), (1, .inl (.int a1)), (2, .inl (.int a2))], [.inl (.int a1), .inl (.ref q0)], h, 0, 0)))
      refine k_cVIH HG (E' := ze_X5_noRow) (Or.inl ⟨rfl, rfl⟩) hsc rfl rfl rfl rfl rfl K rfl (fun hh => x_X5_noRow hsc K.1 hq_q0 hh) (fun y4 K4 => (?_ : G m _ (36, [(0, .inl (.ref q0)), (1, .inl (.int a1)), (2, .inl (.int a2))], [.inl (.int y4.1)], y4.2, 0, 0)))
      refine k_steps HG 3 (kb_eq (x := y4.1) (y := (0 : Int32)) ?_ ?_)
      · show G m _ (43, [(3, .inl (.int y4.1)), (0, .inl (.ref q0)), (1, .inl (.int a1)), (2, .inl (.int a2))], [], y4.2, 0, 0)
        refine k_steps HG 1 (zB_iff.mpr (?_ : G m _ (44, [(3, .inl (.int y4.1)), (0, .inl (.ref q0)), (1, .inl (.int a1)), (2, .inl (.int a2))], [.inl (.ref q0)], y4.2, 0, 0)))
        refine k_getR HG rfl K4 hq_q0 rfl (Nat.le_of_ble_eq_true rfl) rfl rfl (fun t5 => (?_ : G m _ (47, [(3, .inl (.int y4.1)), (0, .inl (.ref q0)), (1, .inl (.int a1)), (2, .inl (.int a2))], [.inl (.ref (hr y4.2 q0 2))], y4.2, 0, 0)))
        refine k_steps HG 1 (zB_iff.mpr (?_ : G m _ (48, [(3, .inl (.int y4.1)), (0, .inl (.ref q0)), (1, .inl (.int a1)), (2, .inl (.int a2))], [.inl (.int a1), .inl (.ref (hr y4.2 q0 2))], y4.2, 0, 0)))
        refine k_iald HG rfl K4 t5 rfl (fun _ => rfl) (?_ : G m _ (49, [(3, .inl (.int y4.1)), (0, .inl (.ref q0)), (1, .inl (.int a1)), (2, .inl (.int a2))], [.inl (.int (hv y4.2 (hr y4.2 q0 2) a1.toNatClampNeg))], y4.2, 0, 0))
        refine k_steps HG 2 (kb_ge (x := (hv y4.2 (hr y4.2 q0 2) a1.toNatClampNeg)) (y := a2) ?_ ?_)
        · show G m _ (62, [(3, .inl (.int y4.1)), (0, .inl (.ref q0)), (1, .inl (.int a1)), (2, .inl (.int a2))], [], y4.2, 0, 0)
          refine k_steps HG 1 (zB_iff.mpr (?_ : G m _ (63, [(3, .inl (.int y4.1)), (0, .inl (.ref q0)), (1, .inl (.int a1)), (2, .inl (.int a2))], [.inl (.int (0 : Int32))], y4.2, 0, 0)))
          exact k_reti HG rfl rfl (fun e1 e2 => hR _ _ e1 e2 K4)
        · show G m _ (53, [(3, .inl (.int y4.1)), (0, .inl (.ref q0)), (1, .inl (.int a1)), (2, .inl (.int a2))], [], y4.2, 0, 0)
          refine k_steps HG 2 (zB_iff.mpr (?_ : G m _ (56, [(3, .inl (.int y4.1)), (0, .inl (.ref q0)), (1, .inl (.int a1)), (2, .inl (.int a2))], [.inl (.int (-2 : Int32)), .inl (.ref q0)], y4.2, 0, 0)))
          refine k_cVIH HG (E' := ze_X5_refuse) (Or.inl ⟨rfl, rfl⟩) hsc rfl rfl rfl rfl rfl K4 rfl (fun hh => x_X5_refuse hsc K4.1 hq_q0 hh) (fun y6 K6 => (?_ : G m _ (59, [(3, .inl (.int y4.1)), (0, .inl (.ref q0)), (1, .inl (.int a1)), (2, .inl (.int a2))], [.inl (.int y6.1)], y6.2, 0, 0)))
          refine k_steps HG 1 (zB_iff.mpr (?_ : G m _ (63, [(3, .inl (.int y4.1)), (0, .inl (.ref q0)), (1, .inl (.int a1)), (2, .inl (.int a2))], [.inl (.int y6.1)], y6.2, 0, 0)))
          exact k_reti HG rfl rfl (fun e1 e2 => hR _ _ e1 e2 K6)
      · show G m _ (41, [(3, .inl (.int y4.1)), (0, .inl (.ref q0)), (1, .inl (.int a1)), (2, .inl (.int a2))], [], y4.2, 0, 0)
        refine k_steps HG 1 (zB_iff.mpr (?_ : G m _ (42, [(3, .inl (.int y4.1)), (0, .inl (.ref q0)), (1, .inl (.int a1)), (2, .inl (.int a2))], [.inl (.int y4.1)], y4.2, 0, 0)))
        exact k_reti HG rfl rfl (fun e1 e2 => hR _ _ e1 e2 K4)
    · show G m _ (24, [(0, .inl (.ref q0)), (1, .inl (.int a1)), (2, .inl (.int a2))], [], h, 0, 0)
      refine k_steps HG 2 (zB_iff.mpr (?_ : G m _ (27, [(0, .inl (.ref q0)), (1, .inl (.int a1)), (2, .inl (.int a2))], [.inl (.int (-2 : Int32)), .inl (.ref q0)], h, 0, 0)))
      refine k_cVIH HG (E' := ze_X5_refuse) (Or.inl ⟨rfl, rfl⟩) hsc rfl rfl rfl rfl rfl K rfl (fun hh => x_X5_refuse hsc K.1 hq_q0 hh) (fun y7 K7 => (?_ : G m _ (30, [(0, .inl (.ref q0)), (1, .inl (.int a1)), (2, .inl (.int a2))], [.inl (.int y7.1)], y7.2, 0, 0)))
      exact k_reti HG rfl rfl (fun e1 e2 => hR _ _ e1 e2 K7)
def W_X5_number : List (Nat × Nat) := [(5, 28), (5, 29), (5, 30), (5, 31), (5, 32), (40, 1000)]
noncomputable def F_X5_number (h : zH) (q0 : Nat) (a1 : Int32) (a2 : Int32) (a3 : Int32) : Int32 × zH := (if (hv h q0 29) = (2 : Int32) then (letf (F_X5_in (Int32.toInt64 (hv h q0 31)) (Int32.toInt64 a2) (Int32.toInt64 a3)) (fun y2 => (if y2 = (0 : Int32) then (letf (F_X5_wrong h q0) (fun y6 => (y6.1, y6.2))) else (letf (hput h (hr h q0 33) a1.toNatClampNeg (.inl (.int (hv h q0 31)))) (fun h4 => (letf (F_X5_look h4 q0) (fun h5 => ((1 : Int32), h5)))))))) else (letf (F_X5_wrong h q0) (fun y1 => (y1.1, y1.2))))
theorem x_X5_number {scr : List zV} {T : List Nat} {h : zH} {q0 : Nat} {a1 : Int32} {a2 : Int32} {a3 : Int32} (hsc : cT scr) (K : hOK kty T h) (hq_q0 : T[q0]? = some 5) (hh : cH h) : xIH scr W_X5_number T T 203 [.inl (.ref q0), .inl (.int a1), .inl (.int a2), .inl (.int a3)] h (F_X5_number h q0 a1 a2 a3) := by
  refine xIH_intro (E := ze_X5_number) hsc rfl (cTb_ok rfl) hh (fun d r h' G HG Pf hR m => ?_)
  have K := kOK_refl (W := W_X5_number) K
  unfold F_X5_number
  show G m _ (0, [(0, .inl (.ref q0)), (1, .inl (.int a1)), (2, .inl (.int a2)), (3, .inl (.int a3))], [], h, 0, 0)
  refine k_steps HG 1 (zB_iff.mpr (?_ : G m _ (1, [(0, .inl (.ref q0)), (1, .inl (.int a1)), (2, .inl (.int a2)), (3, .inl (.int a3))], [.inl (.ref q0)], h, 0, 0)))
  refine k_getI HG rfl K hq_q0 rfl (Nat.le_of_ble_eq_true rfl) rfl (?_ : G m _ (4, [(0, .inl (.ref q0)), (1, .inl (.int a1)), (2, .inl (.int a2)), (3, .inl (.int a3))], [.inl (.int (hv h q0 29))], h, 0, 0))
  refine k_steps HG 2 (kb_ne (x := (hv h q0 29)) (y := (2 : Int32)) ?_ ?_)
  · show G m _ (23, [(0, .inl (.ref q0)), (1, .inl (.int a1)), (2, .inl (.int a2)), (3, .inl (.int a3))], [], h, 0, 0)
    refine k_steps HG 1 (zB_iff.mpr (?_ : G m _ (24, [(0, .inl (.ref q0)), (1, .inl (.int a1)), (2, .inl (.int a2)), (3, .inl (.int a3))], [.inl (.ref q0)], h, 0, 0)))
    refine k_cVIH HG (E' := ze_X5_wrong) (Or.inl ⟨rfl, rfl⟩) hsc rfl rfl rfl rfl rfl K rfl (fun hh => x_X5_wrong hsc K.1 hq_q0 hh) (fun y1 K1 => (?_ : G m _ (27, [(0, .inl (.ref q0)), (1, .inl (.int a1)), (2, .inl (.int a2)), (3, .inl (.int a3))], [.inl (.int y1.1)], y1.2, 0, 0)))
    exact k_retz HG rfl rfl (fun e1 e2 => hR _ _ e1 e2 K1)
  · show G m _ (8, [(0, .inl (.ref q0)), (1, .inl (.int a1)), (2, .inl (.int a2)), (3, .inl (.int a3))], [], h, 0, 0)
    refine k_steps HG 1 (zB_iff.mpr (?_ : G m _ (9, [(0, .inl (.ref q0)), (1, .inl (.int a1)), (2, .inl (.int a2)), (3, .inl (.int a3))], [.inl (.ref q0)], h, 0, 0)))
    refine k_getI HG rfl K hq_q0 rfl (Nat.le_of_ble_eq_true rfl) rfl (?_ : G m _ (12, [(0, .inl (.ref q0)), (1, .inl (.int a1)), (2, .inl (.int a2)), (3, .inl (.int a3))], [.inl (.int (hv h q0 31))], h, 0, 0))
    refine k_steps HG 5 (zB_iff.mpr (?_ : G m _ (17, [(0, .inl (.ref q0)), (1, .inl (.int a1)), (2, .inl (.int a2)), (3, .inl (.int a3))], [.inl (.long (Int32.toInt64 a3)), .inl (.long (Int32.toInt64 a2)), .inl (.long (Int32.toInt64 (hv h q0 31)))], h, 0, 0)))
    refine k_cSI HG (E' := ze_X5_in) (Or.inl rfl) hsc rfl rfl rfl rfl (fun hh => x_X5_in hsc hh) (fun y2 => (?_ : G m _ (20, [(0, .inl (.ref q0)), (1, .inl (.int a1)), (2, .inl (.int a2)), (3, .inl (.int a3))], [.inl (.int y2)], h, 0, 0)))
    refine k_steps HG 1 (kb_ne (x := y2) (y := (0 : Int32)) ?_ ?_)
    · show G m _ (28, [(0, .inl (.ref q0)), (1, .inl (.int a1)), (2, .inl (.int a2)), (3, .inl (.int a3))], [], h, 0, 0)
      refine k_steps HG 1 (zB_iff.mpr (?_ : G m _ (29, [(0, .inl (.ref q0)), (1, .inl (.int a1)), (2, .inl (.int a2)), (3, .inl (.int a3))], [.inl (.ref q0)], h, 0, 0)))
      refine k_getR HG rfl K hq_q0 rfl (Nat.le_of_ble_eq_true rfl) rfl rfl (fun t3 => (?_ : G m _ (32, [(0, .inl (.ref q0)), (1, .inl (.int a1)), (2, .inl (.int a2)), (3, .inl (.int a3))], [.inl (.ref (hr h q0 33))], h, 0, 0)))
      refine k_steps HG 2 (zB_iff.mpr (?_ : G m _ (34, [(0, .inl (.ref q0)), (1, .inl (.int a1)), (2, .inl (.int a2)), (3, .inl (.int a3))], [.inl (.ref q0), .inl (.int a1), .inl (.ref (hr h q0 33))], h, 0, 0)))
      refine k_getI HG rfl K hq_q0 rfl (Nat.le_of_ble_eq_true rfl) rfl (?_ : G m _ (37, [(0, .inl (.ref q0)), (1, .inl (.int a1)), (2, .inl (.int a2)), (3, .inl (.int a3))], [.inl (.int (hv h q0 31)), .inl (.int a1), .inl (.ref (hr h q0 33))], h, 0, 0))
      refine k_iast HG rfl K t3 rfl (fun _ => rfl) rfl (fun h4 K4 => (?_ : G m _ (38, [(0, .inl (.ref q0)), (1, .inl (.int a1)), (2, .inl (.int a2)), (3, .inl (.int a3))], [], h4, 0, 0)))
      refine k_steps HG 1 (zB_iff.mpr (?_ : G m _ (39, [(0, .inl (.ref q0)), (1, .inl (.int a1)), (2, .inl (.int a2)), (3, .inl (.int a3))], [.inl (.ref q0)], h4, 0, 0)))
      refine k_cVH HG (E' := ze_X5_look) (Or.inl ⟨rfl, rfl⟩) hsc rfl rfl rfl rfl rfl K4 rfl (fun hh => x_X5_look hsc K4.1 hq_q0 hh) (fun h5 K5 => (?_ : G m _ (42, [(0, .inl (.ref q0)), (1, .inl (.int a1)), (2, .inl (.int a2)), (3, .inl (.int a3))], [], h5, 0, 0)))
      refine k_steps HG 1 (zB_iff.mpr (?_ : G m _ (43, [(0, .inl (.ref q0)), (1, .inl (.int a1)), (2, .inl (.int a2)), (3, .inl (.int a3))], [.inl (.int (1 : Int32))], h5, 0, 0)))
      exact k_retz HG rfl rfl (fun e1 e2 => hR _ _ e1 e2 K5)
    · show G m _ (23, [(0, .inl (.ref q0)), (1, .inl (.int a1)), (2, .inl (.int a2)), (3, .inl (.int a3))], [], h, 0, 0)
      refine k_steps HG 1 (zB_iff.mpr (?_ : G m _ (24, [(0, .inl (.ref q0)), (1, .inl (.int a1)), (2, .inl (.int a2)), (3, .inl (.int a3))], [.inl (.ref q0)], h, 0, 0)))
      refine k_cVIH HG (E' := ze_X5_wrong) (Or.inl ⟨rfl, rfl⟩) hsc rfl rfl rfl rfl rfl K rfl (fun hh => x_X5_wrong hsc K.1 hq_q0 hh) (fun y6 K6 => (?_ : G m _ (27, [(0, .inl (.ref q0)), (1, .inl (.int a1)), (2, .inl (.int a2)), (3, .inl (.int a3))], [.inl (.int y6.1)], y6.2, 0, 0)))
      exact k_retz HG rfl rfl (fun e1 e2 => hR _ _ e1 e2 K6)
def W_X5_outTold : List (Nat × Nat) := [(5, 28), (5, 29), (5, 30), (5, 31), (5, 32), (31, 1000)]
noncomputable def F_X5_outTold (h : zH) (q0 : Nat) : Int32 × zH := (letf (F_X5_look h q0) (fun h1 => (if (hv h1 q0 29) = (2 : Int32) then (letf (F_X5_in (Int32.toInt64 (hv h1 q0 31)) (1 : Int64) (Int32.toInt64 (hv h1 q0 9))) (fun y3 => (if y3 = (0 : Int32) then (letf (F_X5_wrong h1 q0) (fun y4 => (y4.1, y4.2))) else (if (hv h1 (hr h1 q0 16) (hv h1 q0 31).toNatClampNeg) = (0 : Int32) then (letf (F_X5_thingOn h1 q0 (hv h1 q0 31)) (fun y6 => (if y6 = (-1 : Int32) then (letf (hput h1 (hr h1 q0 16) (hv h1 q0 31).toNatClampNeg (.inl (.int (1 : Int32)))) (fun h8 => (letf (F_X5_look h8 q0) (fun h9 => ((1 : Int32), h9))))) else (if (hv h1 (hr h1 q0 22) y6.toNatClampNeg) = (-1 : Int32) then (letf (F_X5_wrong h1 q0) (fun y14 => (y14.1, y14.2))) else (letf (hput h1 (hr h1 q0 16) (hv h1 q0 31).toNatClampNeg (.inl (.int (1 : Int32)))) (fun h12 => (letf (F_X5_look h12 q0) (fun h13 => ((1 : Int32), h13))))))))) else (letf (F_X5_wrong h1 q0) (fun y15 => (y15.1, y15.2))))))) else (letf (F_X5_wrong h1 q0) (fun y2 => (y2.1, y2.2))))))
theorem x_X5_outTold {scr : List zV} {T : List Nat} {h : zH} {q0 : Nat} (hsc : cT scr) (K : hOK kty T h) (hq_q0 : T[q0]? = some 5) (hh : cH h) : xIH scr W_X5_outTold T T 205 [.inl (.ref q0)] h (F_X5_outTold h q0) := by
  refine xIH_intro (E := ze_X5_outTold) hsc rfl (cTb_ok rfl) hh (fun d r h' G HG Pf hR m => ?_)
  have K := kOK_refl (W := W_X5_outTold) K
  unfold F_X5_outTold
  show G m _ (0, [(0, .inl (.ref q0))], [], h, 0, 0)
  refine k_steps HG 1 (zB_iff.mpr (?_ : G m _ (1, [(0, .inl (.ref q0))], [.inl (.ref q0)], h, 0, 0)))
  refine k_cVH HG (E' := ze_X5_look) (Or.inl ⟨rfl, rfl⟩) hsc rfl rfl rfl rfl rfl K rfl (fun hh => x_X5_look hsc K.1 hq_q0 hh) (fun h1 K1 => (?_ : G m _ (4, [(0, .inl (.ref q0))], [], h1, 0, 0)))
  refine k_steps HG 1 (zB_iff.mpr (?_ : G m _ (5, [(0, .inl (.ref q0))], [.inl (.ref q0)], h1, 0, 0)))
  refine k_getI HG rfl K1 hq_q0 rfl (Nat.le_of_ble_eq_true rfl) rfl (?_ : G m _ (8, [(0, .inl (.ref q0))], [.inl (.int (hv h1 q0 29))], h1, 0, 0))
  refine k_steps HG 2 (kb_ne (x := (hv h1 q0 29)) (y := (2 : Int32)) ?_ ?_)
  · show G m _ (41, [(0, .inl (.ref q0))], [], h1, 0, 0)
    refine k_steps HG 1 (zB_iff.mpr (?_ : G m _ (42, [(0, .inl (.ref q0))], [.inl (.ref q0)], h1, 0, 0)))
    refine k_cVIH HG (E' := ze_X5_wrong) (Or.inl ⟨rfl, rfl⟩) hsc rfl rfl rfl rfl rfl K1 rfl (fun hh => x_X5_wrong hsc K1.1 hq_q0 hh) (fun y2 K2 => (?_ : G m _ (45, [(0, .inl (.ref q0))], [.inl (.int y2.1)], y2.2, 0, 0)))
    exact k_retz HG rfl rfl (fun e1 e2 => hR _ _ e1 e2 K2)
  · show G m _ (12, [(0, .inl (.ref q0))], [], h1, 0, 0)
    refine k_steps HG 1 (zB_iff.mpr (?_ : G m _ (13, [(0, .inl (.ref q0))], [.inl (.ref q0)], h1, 0, 0)))
    refine k_getI HG rfl K1 hq_q0 rfl (Nat.le_of_ble_eq_true rfl) rfl (?_ : G m _ (16, [(0, .inl (.ref q0))], [.inl (.int (hv h1 q0 31))], h1, 0, 0))
    refine k_steps HG 3 (zB_iff.mpr (?_ : G m _ (19, [(0, .inl (.ref q0))], [.inl (.ref q0), .inl (.long (1 : Int64)), .inl (.long (Int32.toInt64 (hv h1 q0 31)))], h1, 0, 0)))
    refine k_getI HG rfl K1 hq_q0 rfl (Nat.le_of_ble_eq_true rfl) rfl (?_ : G m _ (22, [(0, .inl (.ref q0))], [.inl (.int (hv h1 q0 9)), .inl (.long (1 : Int64)), .inl (.long (Int32.toInt64 (hv h1 q0 31)))], h1, 0, 0))
    refine k_steps HG 1 (zB_iff.mpr (?_ : G m _ (23, [(0, .inl (.ref q0))], [.inl (.long (Int32.toInt64 (hv h1 q0 9))), .inl (.long (1 : Int64)), .inl (.long (Int32.toInt64 (hv h1 q0 31)))], h1, 0, 0)))
    refine k_cSI HG (E' := ze_X5_in) (Or.inl rfl) hsc rfl rfl rfl rfl (fun hh => x_X5_in hsc hh) (fun y3 => (?_ : G m _ (26, [(0, .inl (.ref q0))], [.inl (.int y3)], h1, 0, 0)))
    refine k_steps HG 1 (kb_eq (x := y3) (y := (0 : Int32)) ?_ ?_)
    · show G m _ (41, [(0, .inl (.ref q0))], [], h1, 0, 0)
      refine k_steps HG 1 (zB_iff.mpr (?_ : G m _ (42, [(0, .inl (.ref q0))], [.inl (.ref q0)], h1, 0, 0)))
      refine k_cVIH HG (E' := ze_X5_wrong) (Or.inl ⟨rfl, rfl⟩) hsc rfl rfl rfl rfl rfl K1 rfl (fun hh => x_X5_wrong hsc K1.1 hq_q0 hh) (fun y4 K4 => (?_ : G m _ (45, [(0, .inl (.ref q0))], [.inl (.int y4.1)], y4.2, 0, 0)))
      exact k_retz HG rfl rfl (fun e1 e2 => hR _ _ e1 e2 K4)
    · show G m _ (29, [(0, .inl (.ref q0))], [], h1, 0, 0)
      refine k_steps HG 1 (zB_iff.mpr (?_ : G m _ (30, [(0, .inl (.ref q0))], [.inl (.ref q0)], h1, 0, 0)))
      refine k_getR HG rfl K1 hq_q0 rfl (Nat.le_of_ble_eq_true rfl) rfl rfl (fun t5 => (?_ : G m _ (33, [(0, .inl (.ref q0))], [.inl (.ref (hr h1 q0 16))], h1, 0, 0)))
      refine k_steps HG 1 (zB_iff.mpr (?_ : G m _ (34, [(0, .inl (.ref q0))], [.inl (.ref q0), .inl (.ref (hr h1 q0 16))], h1, 0, 0)))
      refine k_getI HG rfl K1 hq_q0 rfl (Nat.le_of_ble_eq_true rfl) rfl (?_ : G m _ (37, [(0, .inl (.ref q0))], [.inl (.int (hv h1 q0 31)), .inl (.ref (hr h1 q0 16))], h1, 0, 0))
      refine k_iald HG rfl K1 t5 rfl (fun _ => rfl) (?_ : G m _ (38, [(0, .inl (.ref q0))], [.inl (.int (hv h1 (hr h1 q0 16) (hv h1 q0 31).toNatClampNeg))], h1, 0, 0))
      refine k_steps HG 1 (kb_eq (x := (hv h1 (hr h1 q0 16) (hv h1 q0 31).toNatClampNeg)) (y := (0 : Int32)) ?_ ?_)
      · show G m _ (46, [(0, .inl (.ref q0))], [], h1, 0, 0)
        refine k_steps HG 2 (zB_iff.mpr (?_ : G m _ (48, [(0, .inl (.ref q0))], [.inl (.ref q0), .inl (.ref q0)], h1, 0, 0)))
        refine k_getI HG rfl K1 hq_q0 rfl (Nat.le_of_ble_eq_true rfl) rfl (?_ : G m _ (51, [(0, .inl (.ref q0))], [.inl (.int (hv h1 q0 31)), .inl (.ref q0)], h1, 0, 0))
        refine k_cVI HG (E' := ze_X5_thingOn) (Or.inl ⟨rfl, rfl⟩) hsc rfl rfl rfl rfl rfl (fun hh => x_X5_thingOn hsc K1.1 hq_q0 hh) (fun y6 => (?_ : G m _ (54, [(0, .inl (.ref q0))], [.inl (.int y6)], h1, 0, 0)))
        refine k_steps HG 4 (kb_eq (x := y6) (y := (-1 : Int32)) ?_ ?_)
        · show G m _ (75, [(1, .inl (.int y6)), (0, .inl (.ref q0))], [], h1, 0, 0)
          refine k_steps HG 1 (zB_iff.mpr (?_ : G m _ (76, [(1, .inl (.int y6)), (0, .inl (.ref q0))], [.inl (.ref q0)], h1, 0, 0)))
          refine k_getR HG rfl K1 hq_q0 rfl (Nat.le_of_ble_eq_true rfl) rfl rfl (fun t7 => (?_ : G m _ (79, [(1, .inl (.int y6)), (0, .inl (.ref q0))], [.inl (.ref (hr h1 q0 16))], h1, 0, 0)))
          refine k_steps HG 1 (zB_iff.mpr (?_ : G m _ (80, [(1, .inl (.int y6)), (0, .inl (.ref q0))], [.inl (.ref q0), .inl (.ref (hr h1 q0 16))], h1, 0, 0)))
          refine k_getI HG rfl K1 hq_q0 rfl (Nat.le_of_ble_eq_true rfl) rfl (?_ : G m _ (83, [(1, .inl (.int y6)), (0, .inl (.ref q0))], [.inl (.int (hv h1 q0 31)), .inl (.ref (hr h1 q0 16))], h1, 0, 0))
          refine k_steps HG 1 (zB_iff.mpr (?_ : G m _ (84, [(1, .inl (.int y6)), (0, .inl (.ref q0))], [.inl (.int (1 : Int32)), .inl (.int (hv h1 q0 31)), .inl (.ref (hr h1 q0 16))], h1, 0, 0)))
          refine k_iast HG rfl K1 t7 rfl (fun _ => rfl) rfl (fun h8 K8 => (?_ : G m _ (85, [(1, .inl (.int y6)), (0, .inl (.ref q0))], [], h8, 0, 0)))
          refine k_steps HG 1 (zB_iff.mpr (?_ : G m _ (86, [(1, .inl (.int y6)), (0, .inl (.ref q0))], [.inl (.ref q0)], h8, 0, 0)))
          refine k_cVH HG (E' := ze_X5_look) (Or.inl ⟨rfl, rfl⟩) hsc rfl rfl rfl rfl rfl K8 rfl (fun hh => x_X5_look hsc K8.1 hq_q0 hh) (fun h9 K9 => (?_ : G m _ (89, [(1, .inl (.int y6)), (0, .inl (.ref q0))], [], h9, 0, 0)))
          refine k_steps HG 1 (zB_iff.mpr (?_ : G m _ (90, [(1, .inl (.int y6)), (0, .inl (.ref q0))], [.inl (.int (1 : Int32))], h9, 0, 0)))
          exact k_retz HG rfl rfl (fun e1 e2 => hR _ _ e1 e2 K9)
        · show G m _ (60, [(1, .inl (.int y6)), (0, .inl (.ref q0))], [], h1, 0, 0)
          refine k_steps HG 1 (zB_iff.mpr (?_ : G m _ (61, [(1, .inl (.int y6)), (0, .inl (.ref q0))], [.inl (.ref q0)], h1, 0, 0)))
          refine k_getR HG rfl K1 hq_q0 rfl (Nat.le_of_ble_eq_true rfl) rfl rfl (fun t10 => (?_ : G m _ (64, [(1, .inl (.int y6)), (0, .inl (.ref q0))], [.inl (.ref (hr h1 q0 22))], h1, 0, 0)))
          refine k_steps HG 1 (zB_iff.mpr (?_ : G m _ (65, [(1, .inl (.int y6)), (0, .inl (.ref q0))], [.inl (.int y6), .inl (.ref (hr h1 q0 22))], h1, 0, 0)))
          refine k_iald HG rfl K1 t10 rfl (fun _ => rfl) (?_ : G m _ (66, [(1, .inl (.int y6)), (0, .inl (.ref q0))], [.inl (.int (hv h1 (hr h1 q0 22) y6.toNatClampNeg))], h1, 0, 0))
          refine k_steps HG 2 (kb_ne (x := (hv h1 (hr h1 q0 22) y6.toNatClampNeg)) (y := (-1 : Int32)) ?_ ?_)
          · show G m _ (75, [(1, .inl (.int y6)), (0, .inl (.ref q0))], [], h1, 0, 0)
            refine k_steps HG 1 (zB_iff.mpr (?_ : G m _ (76, [(1, .inl (.int y6)), (0, .inl (.ref q0))], [.inl (.ref q0)], h1, 0, 0)))
            refine k_getR HG rfl K1 hq_q0 rfl (Nat.le_of_ble_eq_true rfl) rfl rfl (fun t11 => (?_ : G m _ (79, [(1, .inl (.int y6)), (0, .inl (.ref q0))], [.inl (.ref (hr h1 q0 16))], h1, 0, 0)))
            refine k_steps HG 1 (zB_iff.mpr (?_ : G m _ (80, [(1, .inl (.int y6)), (0, .inl (.ref q0))], [.inl (.ref q0), .inl (.ref (hr h1 q0 16))], h1, 0, 0)))
            refine k_getI HG rfl K1 hq_q0 rfl (Nat.le_of_ble_eq_true rfl) rfl (?_ : G m _ (83, [(1, .inl (.int y6)), (0, .inl (.ref q0))], [.inl (.int (hv h1 q0 31)), .inl (.ref (hr h1 q0 16))], h1, 0, 0))
            refine k_steps HG 1 (zB_iff.mpr (?_ : G m _ (84, [(1, .inl (.int y6)), (0, .inl (.ref q0))], [.inl (.int (1 : Int32)), .inl (.int (hv h1 q0 31)), .inl (.ref (hr h1 q0 16))], h1, 0, 0)))
            refine k_iast HG rfl K1 t11 rfl (fun _ => rfl) rfl (fun h12 K12 => (?_ : G m _ (85, [(1, .inl (.int y6)), (0, .inl (.ref q0))], [], h12, 0, 0)))
            refine k_steps HG 1 (zB_iff.mpr (?_ : G m _ (86, [(1, .inl (.int y6)), (0, .inl (.ref q0))], [.inl (.ref q0)], h12, 0, 0)))
            refine k_cVH HG (E' := ze_X5_look) (Or.inl ⟨rfl, rfl⟩) hsc rfl rfl rfl rfl rfl K12 rfl (fun hh => x_X5_look hsc K12.1 hq_q0 hh) (fun h13 K13 => (?_ : G m _ (89, [(1, .inl (.int y6)), (0, .inl (.ref q0))], [], h13, 0, 0)))
            refine k_steps HG 1 (zB_iff.mpr (?_ : G m _ (90, [(1, .inl (.int y6)), (0, .inl (.ref q0))], [.inl (.int (1 : Int32))], h13, 0, 0)))
            exact k_retz HG rfl rfl (fun e1 e2 => hR _ _ e1 e2 K13)
          · show G m _ (70, [(1, .inl (.int y6)), (0, .inl (.ref q0))], [], h1, 0, 0)
            refine k_steps HG 1 (zB_iff.mpr (?_ : G m _ (71, [(1, .inl (.int y6)), (0, .inl (.ref q0))], [.inl (.ref q0)], h1, 0, 0)))
            refine k_cVIH HG (E' := ze_X5_wrong) (Or.inl ⟨rfl, rfl⟩) hsc rfl rfl rfl rfl rfl K1 rfl (fun hh => x_X5_wrong hsc K1.1 hq_q0 hh) (fun y14 K14 => (?_ : G m _ (74, [(1, .inl (.int y6)), (0, .inl (.ref q0))], [.inl (.int y14.1)], y14.2, 0, 0)))
            exact k_retz HG rfl rfl (fun e1 e2 => hR _ _ e1 e2 K14)
      · show G m _ (41, [(0, .inl (.ref q0))], [], h1, 0, 0)
        refine k_steps HG 1 (zB_iff.mpr (?_ : G m _ (42, [(0, .inl (.ref q0))], [.inl (.ref q0)], h1, 0, 0)))
        refine k_cVIH HG (E' := ze_X5_wrong) (Or.inl ⟨rfl, rfl⟩) hsc rfl rfl rfl rfl rfl K1 rfl (fun hh => x_X5_wrong hsc K1.1 hq_q0 hh) (fun y15 K15 => (?_ : G m _ (45, [(0, .inl (.ref q0))], [.inl (.int y15.1)], y15.2, 0, 0)))
        exact k_retz HG rfl rfl (fun e1 e2 => hR _ _ e1 e2 K15)
