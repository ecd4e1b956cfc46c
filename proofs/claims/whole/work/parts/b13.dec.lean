def W_X1_beginFete : List (Nat × Nat) := [(1, 4), (1, 7), (14, 1000), (15, 1000)]
noncomputable def B_X1_beginFete_13 (c0 : Nat) (c1 : Int32) (s : (Int32 × Int32 × zH)) : (Int32 × Int32 × zH) ⊕ (Int32 × zH) := (if s.2.1 < (hv s.2.2 c0 8) then (letf (F_X1_stands s.2.2 c0 s.2.1) (fun y1001 => (if y1001 = (0 : Int32) then (letf (F_X1_liking s.2.2 c0 (hv s.2.2 (hr s.2.2 c0 13) s.2.1.toNatClampNeg) s.2.1) (fun y1003 => (if y1003 < c1 then (letf (hput s.2.2 (hr s.2.2 c0 13) s.2.1.toNatClampNeg (.inl (.int (-1 : Int32)))) (fun h1005 => (letf (hput h1005 (hr h1005 c0 12) s.2.1.toNatClampNeg (.inl (.int ((hv h1005 (hr h1005 c0 12) s.2.1.toNatClampNeg) + (1 : Int32))))) (fun h1007 => (Sum.inl ((s.1 + (1 : Int32)), (s.2.1 + (1 : Int32)), h1007)))))) else (Sum.inl (s.1, (s.2.1 + (1 : Int32)), s.2.2))))) else (Sum.inl (s.1, (s.2.1 + (1 : Int32)), s.2.2))))) else (Sum.inr (s.1, s.2.2)))
noncomputable def F_X1_beginFete (h : zH) (q0 : Nat) (a1 : Int32) : Int32 × zH := (letf (F_X1_putAllIn h q0) (fun h1 => (letf (hput h1 q0 4 (.inl (.int (0 : Int32)))) (fun h2 => (fx (B_X1_beginFete_13 q0 a1) (0, []) ((0 : Int32), (0 : Int32), h2))))))
theorem x_X1_beginFete {scr : List zV} {T : List Nat} {h : zH} {q0 : Nat} {a1 : Int32} (hsc : cT scr) (K : hOK kty T h) (hq_q0 : T[q0]? = some 1) (hh : cH h) : xIH scr W_X1_beginFete T T 33 [.inl (.ref q0), .inl (.int a1)] h (F_X1_beginFete h q0 a1) := by
  refine xIH_intro (E := ze_X1_beginFete) hsc rfl (cTb_ok rfl) hh (fun d r h' G HG Pf hR m => ?_)
  have K := kOK_refl (W := W_X1_beginFete) K
  unfold F_X1_beginFete
  show G m _ (0, [(0, .inl (.ref q0)), (1, .inl (.int a1))], [], h, 0, 0)
  refine k_steps HG 1 (zB_iff.mpr (?_ : G m _ (1, [(0, .inl (.ref q0)), (1, .inl (.int a1))], [.inl (.ref q0)], h, 0, 0)))
  refine k_cVH HG (E' := ze_X1_putAllIn) (Or.inl ⟨rfl, rfl⟩) hsc rfl rfl rfl rfl rfl K rfl (fun hh => x_X1_putAllIn hsc K.1 hq_q0 hh) (fun h1 K1 => (?_ : G m _ (4, [(0, .inl (.ref q0)), (1, .inl (.int a1))], [], h1, 0, 0)))
  refine k_steps HG 2 (zB_iff.mpr (?_ : G m _ (6, [(0, .inl (.ref q0)), (1, .inl (.int a1))], [.inl (.int (0 : Int32)), .inl (.ref q0)], h1, 0, 0)))
  refine k_putI HG rfl K1 hq_q0 rfl rfl rfl (fun h2 K2 => (?_ : G m _ (9, [(0, .inl (.ref q0)), (1, .inl (.int a1))], [], h2, 0, 0)))
  refine k_steps HG 4 (zB_iff.mpr (?_ : G m _ (13, [(3, .inl (.int (0 : Int32))), (2, .inl (.int (0 : Int32))), (0, .inl (.ref q0)), (1, .inl (.int a1))], [], h2, 0, 0)))
  have lp3 : ∀ m3, m3 ≤ m → ∀ (v3_2 : Int32) (v3_3 : Int32) (h3 : zH), kOK W_X1_beginFete T T h h3 → G m3 (Pf (fx (B_X1_beginFete_13 q0 a1) (0, []) (v3_2, v3_3, h3))) (13, [(0, .inl (.ref q0)), (1, .inl (.int a1)), (2, .inl (.int v3_2)), (3, .inl (.int v3_3))], [], h3, 0, 0) := by
    intro m3
    induction m3 with
    | zero =>
      intros
      exact k_zero HG
    | succ m3 ih3 =>
      intro le3 v3_2 v3_3 h3 K3
      have le3 := Nat.le_of_succ_le le3
      have ih3 := ih3 le3
      refine k_fx ?_
      rw [B_X1_beginFete_13]
      refine k_first HG 1 (zB_iff.mpr (?_ : G m3 _ (15, [(0, .inl (.ref q0)), (1, .inl (.int a1)), (2, .inl (.int v3_2)), (3, .inl (.int v3_3))], [.inl (.ref q0), .inl (.int v3_3)], h3, 0, 0)))
      refine k_getI HG rfl K3 hq_q0 rfl (Nat.le_of_ble_eq_true rfl) rfl (?_ : G m3 _ (18, [(0, .inl (.ref q0)), (1, .inl (.int a1)), (2, .inl (.int v3_2)), (3, .inl (.int v3_3))], [.inl (.int (hv h3 q0 8)), .inl (.int v3_3)], h3, 0, 0))
      refine k_steps HG 1 (kb_ge (x := v3_3) (y := (hv h3 q0 8)) ?_ ?_)
      · show G m3 _ (70, [(0, .inl (.ref q0)), (1, .inl (.int a1)), (2, .inl (.int v3_2)), (3, .inl (.int v3_3))], [], h3, 0, 0)
        refine k_steps HG 1 (zB_iff.mpr (?_ : G m3 _ (71, [(0, .inl (.ref q0)), (1, .inl (.int a1)), (2, .inl (.int v3_2)), (3, .inl (.int v3_3))], [.inl (.int v3_2)], h3, 0, 0)))
        exact k_reti HG rfl rfl (fun e1 e2 => hR _ _ e1 e2 K3)
      · show G m3 _ (21, [(0, .inl (.ref q0)), (1, .inl (.int a1)), (2, .inl (.int v3_2)), (3, .inl (.int v3_3))], [], h3, 0, 0)
        refine k_steps HG 2 (zB_iff.mpr (?_ : G m3 _ (23, [(0, .inl (.ref q0)), (1, .inl (.int a1)), (2, .inl (.int v3_2)), (3, .inl (.int v3_3))], [.inl (.int v3_3), .inl (.ref q0)], h3, 0, 0)))
        refine k_cVI HG (E' := ze_X1_stands) (Or.inl ⟨rfl, rfl⟩) hsc rfl rfl rfl rfl rfl (fun hh => x_X1_stands hsc K3.1 hq_q0 hh) (fun y4 => (?_ : G m3 _ (26, [(0, .inl (.ref q0)), (1, .inl (.int a1)), (2, .inl (.int v3_2)), (3, .inl (.int v3_3))], [.inl (.int y4)], h3, 0, 0)))
        refine k_steps HG 1 (kb_ne (x := y4) (y := (0 : Int32)) ?_ ?_)
        · show G m3 _ (64, [(0, .inl (.ref q0)), (1, .inl (.int a1)), (2, .inl (.int v3_2)), (3, .inl (.int v3_3))], [], h3, 0, 0)
          refine k_steps HG 2 (zB_iff.mpr (?_ : G m3 _ (13, [(3, .inl (.int (v3_3 + (1 : Int32)))), (0, .inl (.ref q0)), (1, .inl (.int a1)), (2, .inl (.int v3_2))], [], h3, 0, 0)))
          refine k_ext HG (L' := [(0, .inl (.ref q0)), (1, .inl (.int a1)), (2, .inl (.int v3_2)), (3, .inl (.int (v3_3 + (1 : Int32))))]) rfl rfl ⟨rfl, rfl, rfl, rfl, trivial⟩ ?_
          exact ih3 _ _ _ K3
        · show G m3 _ (29, [(0, .inl (.ref q0)), (1, .inl (.int a1)), (2, .inl (.int v3_2)), (3, .inl (.int v3_3))], [], h3, 0, 0)
          refine k_steps HG 2 (zB_iff.mpr (?_ : G m3 _ (31, [(0, .inl (.ref q0)), (1, .inl (.int a1)), (2, .inl (.int v3_2)), (3, .inl (.int v3_3))], [.inl (.ref q0), .inl (.ref q0)], h3, 0, 0)))
          refine k_getR HG rfl K3 hq_q0 rfl (Nat.le_of_ble_eq_true rfl) rfl rfl (fun t5 => (?_ : G m3 _ (34, [(0, .inl (.ref q0)), (1, .inl (.int a1)), (2, .inl (.int v3_2)), (3, .inl (.int v3_3))], [.inl (.ref (hr h3 q0 13)), .inl (.ref q0)], h3, 0, 0)))
          refine k_steps HG 1 (zB_iff.mpr (?_ : G m3 _ (35, [(0, .inl (.ref q0)), (1, .inl (.int a1)), (2, .inl (.int v3_2)), (3, .inl (.int v3_3))], [.inl (.int v3_3), .inl (.ref (hr h3 q0 13)), .inl (.ref q0)], h3, 0, 0)))
          refine k_iald HG rfl K3 t5 rfl (fun _ => rfl) (?_ : G m3 _ (36, [(0, .inl (.ref q0)), (1, .inl (.int a1)), (2, .inl (.int v3_2)), (3, .inl (.int v3_3))], [.inl (.int (hv h3 (hr h3 q0 13) v3_3.toNatClampNeg)), .inl (.ref q0)], h3, 0, 0))
          refine k_steps HG 1 (zB_iff.mpr (?_ : G m3 _ (37, [(0, .inl (.ref q0)), (1, .inl (.int a1)), (2, .inl (.int v3_2)), (3, .inl (.int v3_3))], [.inl (.int v3_3), .inl (.int (hv h3 (hr h3 q0 13) v3_3.toNatClampNeg)), .inl (.ref q0)], h3, 0, 0)))
          refine k_cVI HG (E' := ze_X1_liking) (Or.inl ⟨rfl, rfl⟩) hsc rfl rfl rfl rfl rfl (fun hh => x_X1_liking hsc K3.1 hq_q0 hh) (fun y6 => (?_ : G m3 _ (40, [(0, .inl (.ref q0)), (1, .inl (.int a1)), (2, .inl (.int v3_2)), (3, .inl (.int v3_3))], [.inl (.int y6)], h3, 0, 0)))
          refine k_steps HG 2 (kb_ge (x := y6) (y := a1) ?_ ?_)
          · show G m3 _ (64, [(0, .inl (.ref q0)), (1, .inl (.int a1)), (2, .inl (.int v3_2)), (3, .inl (.int v3_3))], [], h3, 0, 0)
            refine k_steps HG 2 (zB_iff.mpr (?_ : G m3 _ (13, [(3, .inl (.int (v3_3 + (1 : Int32)))), (0, .inl (.ref q0)), (1, .inl (.int a1)), (2, .inl (.int v3_2))], [], h3, 0, 0)))
            refine k_ext HG (L' := [(0, .inl (.ref q0)), (1, .inl (.int a1)), (2, .inl (.int v3_2)), (3, .inl (.int (v3_3 + (1 : Int32))))]) rfl rfl ⟨rfl, rfl, rfl, rfl, trivial⟩ ?_
            exact ih3 _ _ _ K3
          · show G m3 _ (44, [(0, .inl (.ref q0)), (1, .inl (.int a1)), (2, .inl (.int v3_2)), (3, .inl (.int v3_3))], [], h3, 0, 0)
            refine k_steps HG 1 (zB_iff.mpr (?_ : G m3 _ (45, [(0, .inl (.ref q0)), (1, .inl (.int a1)), (2, .inl (.int v3_2)), (3, .inl (.int v3_3))], [.inl (.ref q0)], h3, 0, 0)))
            refine k_getR HG rfl K3 hq_q0 rfl (Nat.le_of_ble_eq_true rfl) rfl rfl (fun t7 => (?_ : G m3 _ (48, [(0, .inl (.ref q0)), (1, .inl (.int a1)), (2, .inl (.int v3_2)), (3, .inl (.int v3_3))], [.inl (.ref (hr h3 q0 13))], h3, 0, 0)))
            refine k_steps HG 2 (zB_iff.mpr (?_ : G m3 _ (50, [(0, .inl (.ref q0)), (1, .inl (.int a1)), (2, .inl (.int v3_2)), (3, .inl (.int v3_3))], [.inl (.int (-1 : Int32)), .inl (.int v3_3), .inl (.ref (hr h3 q0 13))], h3, 0, 0)))
            refine k_iast HG rfl K3 t7 rfl (fun _ => rfl) rfl (fun h8 K8 => (?_ : G m3 _ (51, [(0, .inl (.ref q0)), (1, .inl (.int a1)), (2, .inl (.int v3_2)), (3, .inl (.int v3_3))], [], h8, 0, 0)))
            refine k_steps HG 1 (zB_iff.mpr (?_ : G m3 _ (52, [(0, .inl (.ref q0)), (1, .inl (.int a1)), (2, .inl (.int v3_2)), (3, .inl (.int v3_3))], [.inl (.ref q0)], h8, 0, 0)))
            refine k_getR HG rfl K8 hq_q0 rfl (Nat.le_of_ble_eq_true rfl) rfl rfl (fun t9 => (?_ : G m3 _ (55, [(0, .inl (.ref q0)), (1, .inl (.int a1)), (2, .inl (.int v3_2)), (3, .inl (.int v3_3))], [.inl (.ref (hr h8 q0 12))], h8, 0, 0)))
            refine k_steps HG 2 (zB_iff.mpr (?_ : G m3 _ (57, [(0, .inl (.ref q0)), (1, .inl (.int a1)), (2, .inl (.int v3_2)), (3, .inl (.int v3_3))], [.inl (.int v3_3), .inl (.ref (hr h8 q0 12)), .inl (.int v3_3), .inl (.ref (hr h8 q0 12))], h8, 0, 0)))
            refine k_iald HG rfl K8 t9 rfl (fun _ => rfl) (?_ : G m3 _ (58, [(0, .inl (.ref q0)), (1, .inl (.int a1)), (2, .inl (.int v3_2)), (3, .inl (.int v3_3))], [.inl (.int (hv h8 (hr h8 q0 12) v3_3.toNatClampNeg)), .inl (.int v3_3), .inl (.ref (hr h8 q0 12))], h8, 0, 0))
            refine k_steps HG 2 (zB_iff.mpr (?_ : G m3 _ (60, [(0, .inl (.ref q0)), (1, .inl (.int a1)), (2, .inl (.int v3_2)), (3, .inl (.int v3_3))], [.inl (.int ((hv h8 (hr h8 q0 12) v3_3.toNatClampNeg) + (1 : Int32))), .inl (.int v3_3), .inl (.ref (hr h8 q0 12))], h8, 0, 0)))
            refine k_iast HG rfl K8 t9 rfl (fun _ => rfl) rfl (fun h10 K10 => (?_ : G m3 _ (61, [(0, .inl (.ref q0)), (1, .inl (.int a1)), (2, .inl (.int v3_2)), (3, .inl (.int v3_3))], [], h10, 0, 0)))
            refine k_steps HG 3 (zB_iff.mpr (?_ : G m3 _ (13, [(3, .inl (.int (v3_3 + (1 : Int32)))), (2, .inl (.int (v3_2 + (1 : Int32)))), (0, .inl (.ref q0)), (1, .inl (.int a1))], [], h10, 0, 0)))
            refine k_ext HG (L' := [(0, .inl (.ref q0)), (1, .inl (.int a1)), (2, .inl (.int (v3_2 + (1 : Int32)))), (3, .inl (.int (v3_3 + (1 : Int32))))]) rfl rfl ⟨rfl, rfl, rfl, rfl, trivial⟩ ?_
            exact ih3 _ _ _ K10
  refine k_ext HG (L' := [(0, .inl (.ref q0)), (1, .inl (.int a1)), (2, .inl (.int (0 : Int32))), (3, .inl (.int (0 : Int32)))]) rfl rfl ⟨rfl, rfl, rfl, rfl, trivial⟩ ?_
  exact lp3 m (Nat.le_refl _) _ _ _ K2
noncomputable def F_X1_canBeDrawn (h : zH) (q0 : Nat) (a1 : Int32) : Int32 := (letf (F_X1_isSlip h q0 a1) (fun y1 => (if y1 = (0 : Int32) then (0 : Int32) else (letf (F_X1_isIn h q0 a1) (fun y2 => (if y2 = (0 : Int32) then (0 : Int32) else (letf (F_X1_thingOn h q0 a1) (fun y3 => (letf (F_X1_stands h q0 y3) (fun y4 => (if y4 = (0 : Int32) then (1 : Int32) else (letf (F_X1_countIn h q0) (fun y5 => (letf (F_X1_thingsReady h q0 (hv h q0 4) y5) (fun y6 => (if (y6 &&& ((1 : Int32) <<< (y3 &&& 31))) = (0 : Int32) then (0 : Int32) else (1 : Int32)))))))))))))))))
theorem x_X1_canBeDrawn {scr : List zV} {T : List Nat} {h : zH} {q0 : Nat} {a1 : Int32} (hsc : cT scr) (K : hOK kty T h) (hq_q0 : T[q0]? = some 1) (hh : cH h) : xI scr 34 [.inl (.ref q0), .inl (.int a1)] h (F_X1_canBeDrawn h q0 a1) := by
  refine xI_intro (E := ze_X1_canBeDrawn) hsc rfl (cTb_ok rfl) hh (fun d r h' G HG Pf hR m => ?_)
  have K := kOK_refl (W := []) K
  unfold F_X1_canBeDrawn
  show G m _ (0, [(0, .inl (.ref q0)), (1, .inl (.int a1))], [], h, 0, 0)
  refine k_steps HG 2 (zB_iff.mpr (?_ : G m _ (2, [(0, .inl (.ref q0)), (1, .inl (.int a1))], [.inl (.int a1), .inl (.ref q0)], h, 0, 0)))
  refine k_cVI HG (E' := ze_X1_isSlip) (Or.inl ⟨rfl, rfl⟩) hsc rfl rfl rfl rfl rfl (fun hh => x_X1_isSlip hsc K.1 hq_q0 hh) (fun y1 => (?_ : G m _ (5, [(0, .inl (.ref q0)), (1, .inl (.int a1))], [.inl (.int y1)], h, 0, 0)))
  refine k_steps HG 1 (kb_eq (x := y1) (y := (0 : Int32)) ?_ ?_)
  · show G m _ (16, [(0, .inl (.ref q0)), (1, .inl (.int a1))], [], h, 0, 0)
    refine k_steps HG 1 (zB_iff.mpr (?_ : G m _ (17, [(0, .inl (.ref q0)), (1, .inl (.int a1))], [.inl (.int (0 : Int32))], h, 0, 0)))
    exact k_retz HG rfl rfl (fun e1 e2 => hR _ e1 e2)
  · show G m _ (8, [(0, .inl (.ref q0)), (1, .inl (.int a1))], [], h, 0, 0)
    refine k_steps HG 2 (zB_iff.mpr (?_ : G m _ (10, [(0, .inl (.ref q0)), (1, .inl (.int a1))], [.inl (.int a1), .inl (.ref q0)], h, 0, 0)))
    refine k_cVI HG (E' := ze_X1_isIn) (Or.inl ⟨rfl, rfl⟩) hsc rfl rfl rfl rfl rfl (fun hh => x_X1_isIn hsc K.1 hq_q0 hh) (fun y2 => (?_ : G m _ (13, [(0, .inl (.ref q0)), (1, .inl (.int a1))], [.inl (.int y2)], h, 0, 0)))
    refine k_steps HG 1 (kb_ne (x := y2) (y := (0 : Int32)) ?_ ?_)
    · show G m _ (18, [(0, .inl (.ref q0)), (1, .inl (.int a1))], [], h, 0, 0)
      refine k_steps HG 2 (zB_iff.mpr (?_ : G m _ (20, [(0, .inl (.ref q0)), (1, .inl (.int a1))], [.inl (.int a1), .inl (.ref q0)], h, 0, 0)))
      refine k_cVI HG (E' := ze_X1_thingOn) (Or.inl ⟨rfl, rfl⟩) hsc rfl rfl rfl rfl rfl (fun hh => x_X1_thingOn hsc K.1 hq_q0 hh) (fun y3 => (?_ : G m _ (23, [(0, .inl (.ref q0)), (1, .inl (.int a1))], [.inl (.int y3)], h, 0, 0)))
      refine k_steps HG 3 (zB_iff.mpr (?_ : G m _ (26, [(2, .inl (.int y3)), (0, .inl (.ref q0)), (1, .inl (.int a1))], [.inl (.int y3), .inl (.ref q0)], h, 0, 0)))
      refine k_cVI HG (E' := ze_X1_stands) (Or.inl ⟨rfl, rfl⟩) hsc rfl rfl rfl rfl rfl (fun hh => x_X1_stands hsc K.1 hq_q0 hh) (fun y4 => (?_ : G m _ (29, [(2, .inl (.int y3)), (0, .inl (.ref q0)), (1, .inl (.int a1))], [.inl (.int y4)], h, 0, 0)))
      refine k_steps HG 1 (kb_eq (x := y4) (y := (0 : Int32)) ?_ ?_)
      · show G m _ (51, [(2, .inl (.int y3)), (0, .inl (.ref q0)), (1, .inl (.int a1))], [], h, 0, 0)
        refine k_steps HG 2 (zB_iff.mpr (?_ : G m _ (56, [(2, .inl (.int y3)), (0, .inl (.ref q0)), (1, .inl (.int a1))], [.inl (.int (1 : Int32))], h, 0, 0)))
        exact k_retz HG rfl rfl (fun e1 e2 => hR _ e1 e2)
      · show G m _ (32, [(2, .inl (.int y3)), (0, .inl (.ref q0)), (1, .inl (.int a1))], [], h, 0, 0)
        refine k_steps HG 2 (zB_iff.mpr (?_ : G m _ (34, [(2, .inl (.int y3)), (0, .inl (.ref q0)), (1, .inl (.int a1))], [.inl (.ref q0), .inl (.ref q0)], h, 0, 0)))
        refine k_getI HG rfl K hq_q0 rfl (Nat.le_of_ble_eq_true rfl) rfl (?_ : G m _ (37, [(2, .inl (.int y3)), (0, .inl (.ref q0)), (1, .inl (.int a1))], [.inl (.int (hv h q0 4)), .inl (.ref q0)], h, 0, 0))
        refine k_steps HG 1 (zB_iff.mpr (?_ : G m _ (38, [(2, .inl (.int y3)), (0, .inl (.ref q0)), (1, .inl (.int a1))], [.inl (.ref q0), .inl (.int (hv h q0 4)), .inl (.ref q0)], h, 0, 0)))
        refine k_cVI HG (E' := ze_X1_countIn) (Or.inl ⟨rfl, rfl⟩) hsc rfl rfl rfl rfl rfl (fun hh => x_X1_countIn hsc K.1 hq_q0 hh) (fun y5 => (?_ : G m _ (41, [(2, .inl (.int y3)), (0, .inl (.ref q0)), (1, .inl (.int a1))], [.inl (.int y5), .inl (.int (hv h q0 4)), .inl (.ref q0)], h, 0, 0)))
        refine k_cVI HG (E' := ze_X1_thingsReady) (Or.inl ⟨rfl, rfl⟩) hsc rfl rfl rfl rfl rfl (fun hh => x_X1_thingsReady hsc K.1 hq_q0 hh) (fun y6 => (?_ : G m _ (44, [(2, .inl (.int y3)), (0, .inl (.ref q0)), (1, .inl (.int a1))], [.inl (.int y6)], h, 0, 0)))
        refine k_steps HG 5 (kb_eq (x := (y6 &&& ((1 : Int32) <<< (y3 &&& 31)))) (y := (0 : Int32)) ?_ ?_)
        · show G m _ (55, [(2, .inl (.int y3)), (0, .inl (.ref q0)), (1, .inl (.int a1))], [], h, 0, 0)
          refine k_steps HG 1 (zB_iff.mpr (?_ : G m _ (56, [(2, .inl (.int y3)), (0, .inl (.ref q0)), (1, .inl (.int a1))], [.inl (.int (0 : Int32))], h, 0, 0)))
          exact k_retz HG rfl rfl (fun e1 e2 => hR _ e1 e2)
        · show G m _ (51, [(2, .inl (.int y3)), (0, .inl (.ref q0)), (1, .inl (.int a1))], [], h, 0, 0)
          refine k_steps HG 2 (zB_iff.mpr (?_ : G m _ (56, [(2, .inl (.int y3)), (0, .inl (.ref q0)), (1, .inl (.int a1))], [.inl (.int (1 : Int32))], h, 0, 0)))
          exact k_retz HG rfl rfl (fun e1 e2 => hR _ e1 e2)
    · show G m _ (16, [(0, .inl (.ref q0)), (1, .inl (.int a1))], [], h, 0, 0)
      refine k_steps HG 1 (zB_iff.mpr (?_ : G m _ (17, [(0, .inl (.ref q0)), (1, .inl (.int a1))], [.inl (.int (0 : Int32))], h, 0, 0)))
      exact k_retz HG rfl rfl (fun e1 e2 => hR _ e1 e2)
noncomputable def F_X1_countDrawable (h : zH) (q0 : Nat) : Int32 := (letf (F_X1_countIn h q0) (fun y1 => (letf (F_X1_standing h q0) (fun y2 => (letf (F_X1_thingsReady h q0 (hv h q0 4) y1) (fun y3 => (letf (F_J6_bitCount_0f7a4 (y2 &&& (y3 ^^^ (-1 : Int32)))) (fun y4 => (y1 - y4)))))))))
theorem x_X1_countDrawable {scr : List zV} {T : List Nat} {h : zH} {q0 : Nat} (hsc : cT scr) (K : hOK kty T h) (hq_q0 : T[q0]? = some 1) (hh : cH h) : xI scr 35 [.inl (.ref q0)] h (F_X1_countDrawable h q0) := by
  refine xI_intro (E := ze_X1_countDrawable) hsc rfl (cTb_ok rfl) hh (fun d r h' G HG Pf hR m => ?_)
  have K := kOK_refl (W := []) K
  unfold F_X1_countDrawable
  show G m _ (0, [(0, .inl (.ref q0))], [], h, 0, 0)
  refine k_steps HG 1 (zB_iff.mpr (?_ : G m _ (1, [(0, .inl (.ref q0))], [.inl (.ref q0)], h, 0, 0)))
  refine k_cVI HG (E' := ze_X1_countIn) (Or.inl ⟨rfl, rfl⟩) hsc rfl rfl rfl rfl rfl (fun hh => x_X1_countIn hsc K.1 hq_q0 hh) (fun y1 => (?_ : G m _ (4, [(0, .inl (.ref q0))], [.inl (.int y1)], h, 0, 0)))
  refine k_steps HG 3 (zB_iff.mpr (?_ : G m _ (7, [(1, .inl (.int y1)), (0, .inl (.ref q0))], [.inl (.ref q0), .inl (.int y1)], h, 0, 0)))
  refine k_cVI HG (E' := ze_X1_standing) (Or.inl ⟨rfl, rfl⟩) hsc rfl rfl rfl rfl rfl (fun hh => x_X1_standing hsc K.1 hq_q0 hh) (fun y2 => (?_ : G m _ (10, [(1, .inl (.int y1)), (0, .inl (.ref q0))], [.inl (.int y2), .inl (.int y1)], h, 0, 0)))
  refine k_steps HG 2 (zB_iff.mpr (?_ : G m _ (12, [(1, .inl (.int y1)), (0, .inl (.ref q0))], [.inl (.ref q0), .inl (.ref q0), .inl (.int y2), .inl (.int y1)], h, 0, 0)))
  refine k_getI HG rfl K hq_q0 rfl (Nat.le_of_ble_eq_true rfl) rfl (?_ : G m _ (15, [(1, .inl (.int y1)), (0, .inl (.ref q0))], [.inl (.int (hv h q0 4)), .inl (.ref q0), .inl (.int y2), .inl (.int y1)], h, 0, 0))
  refine k_steps HG 1 (zB_iff.mpr (?_ : G m _ (16, [(1, .inl (.int y1)), (0, .inl (.ref q0))], [.inl (.int y1), .inl (.int (hv h q0 4)), .inl (.ref q0), .inl (.int y2), .inl (.int y1)], h, 0, 0)))
  refine k_cVI HG (E' := ze_X1_thingsReady) (Or.inl ⟨rfl, rfl⟩) hsc rfl rfl rfl rfl rfl (fun hh => x_X1_thingsReady hsc K.1 hq_q0 hh) (fun y3 => (?_ : G m _ (19, [(1, .inl (.int y1)), (0, .inl (.ref q0))], [.inl (.int y3), .inl (.int y2), .inl (.int y1)], h, 0, 0)))
  refine k_steps HG 3 (zB_iff.mpr (?_ : G m _ (22, [(1, .inl (.int y1)), (0, .inl (.ref q0))], [.inl (.int (y2 &&& (y3 ^^^ (-1 : Int32)))), .inl (.int y1)], h, 0, 0)))
  refine k_cSI HG (E' := ze_J6_bitCount_0f7a4) (Or.inl rfl) hsc rfl rfl rfl rfl (fun hh => x_J6_bitCount_0f7a4 hsc hh) (fun y4 => (?_ : G m _ (25, [(1, .inl (.int y1)), (0, .inl (.ref q0))], [.inl (.int y4), .inl (.int y1)], h, 0, 0)))
  refine k_steps HG 1 (zB_iff.mpr (?_ : G m _ (26, [(1, .inl (.int y1)), (0, .inl (.ref q0))], [.inl (.int (y1 - y4))], h, 0, 0)))
  exact k_reti HG rfl rfl (fun e1 e2 => hR _ e1 e2)
noncomputable def B_X1_firstBrought_15 (h : zH) (c0 : Nat) (c1 : Int32) (s : (Int32)) : (Int32) ⊕ (Int32) := (if s < (hv h c0 8) then (if (c1 &&& ((1 : Int32) <<< (s &&& 31))) = (0 : Int32) then (Sum.inl (s + (1 : Int32))) else (Sum.inr s)) else (Sum.inr (-1 : Int32)))
noncomputable def F_X1_firstBrought (h : zH) (q0 : Nat) : Int32 := (letf (F_X1_standing h q0) (fun y1 => (letf (F_X1_thingsUnder h q0 (1 : Int32)) (fun y2 => (fx (B_X1_firstBrought_15 h q0 (y1 &&& (y2 ^^^ (-1 : Int32)))) 0 (0 : Int32))))))
theorem x_X1_firstBrought {scr : List zV} {T : List Nat} {h : zH} {q0 : Nat} (hsc : cT scr) (K : hOK kty T h) (hq_q0 : T[q0]? = some 1) (hh : cH h) : xI scr 39 [.inl (.ref q0)] h (F_X1_firstBrought h q0) := by
  refine xI_intro (E := ze_X1_firstBrought) hsc rfl (cTb_ok rfl) hh (fun d r h' G HG Pf hR m => ?_)
  have K := kOK_refl (W := []) K
  unfold F_X1_firstBrought
  show G m _ (0, [(0, .inl (.ref q0))], [], h, 0, 0)
  refine k_steps HG 1 (zB_iff.mpr (?_ : G m _ (1, [(0, .inl (.ref q0))], [.inl (.ref q0)], h, 0, 0)))
  refine k_cVI HG (E' := ze_X1_standing) (Or.inl ⟨rfl, rfl⟩) hsc rfl rfl rfl rfl rfl (fun hh => x_X1_standing hsc K.1 hq_q0 hh) (fun y1 => (?_ : G m _ (4, [(0, .inl (.ref q0))], [.inl (.int y1)], h, 0, 0)))
  refine k_steps HG 2 (zB_iff.mpr (?_ : G m _ (6, [(0, .inl (.ref q0))], [.inl (.int (1 : Int32)), .inl (.ref q0), .inl (.int y1)], h, 0, 0)))
  refine k_cVI HG (E' := ze_X1_thingsUnder) (Or.inl ⟨rfl, rfl⟩) hsc rfl rfl rfl rfl rfl (fun hh => x_X1_thingsUnder hsc K.1 hq_q0 hh) (fun y2 => (?_ : G m _ (9, [(0, .inl (.ref q0))], [.inl (.int y2), .inl (.int y1)], h, 0, 0)))
  refine k_steps HG 6 (zB_iff.mpr (?_ : G m _ (15, [(2, .inl (.int (0 : Int32))), (1, .inl (.int (y1 &&& (y2 ^^^ (-1 : Int32))))), (0, .inl (.ref q0))], [], h, 0, 0)))
  have lp3 : ∀ m3, m3 ≤ m → ∀ (v3_2 : Int32), G m3 (Pf (fx (B_X1_firstBrought_15 h q0 (y1 &&& (y2 ^^^ (-1 : Int32)))) 0 v3_2)) (15, [(0, .inl (.ref q0)), (1, .inl (.int (y1 &&& (y2 ^^^ (-1 : Int32))))), (2, .inl (.int v3_2))], [], h, 0, 0) := by
    intro m3
    induction m3 with
    | zero =>
      intros
      exact k_zero HG
    | succ m3 ih3 =>
      intro le3 v3_2
      have le3 := Nat.le_of_succ_le le3
      have ih3 := ih3 le3
      refine k_fx ?_
      rw [B_X1_firstBrought_15]
      refine k_first HG 1 (zB_iff.mpr (?_ : G m3 _ (17, [(0, .inl (.ref q0)), (1, .inl (.int (y1 &&& (y2 ^^^ (-1 : Int32))))), (2, .inl (.int v3_2))], [.inl (.ref q0), .inl (.int v3_2)], h, 0, 0)))
      refine k_getI HG rfl K hq_q0 rfl (Nat.le_of_ble_eq_true rfl) rfl (?_ : G m3 _ (20, [(0, .inl (.ref q0)), (1, .inl (.int (y1 &&& (y2 ^^^ (-1 : Int32))))), (2, .inl (.int v3_2))], [.inl (.int (hv h q0 8)), .inl (.int v3_2)], h, 0, 0))
      refine k_steps HG 1 (kb_ge (x := v3_2) (y := (hv h q0 8)) ?_ ?_)
      · show G m3 _ (39, [(0, .inl (.ref q0)), (1, .inl (.int (y1 &&& (y2 ^^^ (-1 : Int32))))), (2, .inl (.int v3_2))], [], h, 0, 0)
        refine k_steps HG 1 (zB_iff.mpr (?_ : G m3 _ (40, [(0, .inl (.ref q0)), (1, .inl (.int (y1 &&& (y2 ^^^ (-1 : Int32))))), (2, .inl (.int v3_2))], [.inl (.int (-1 : Int32))], h, 0, 0)))
        exact k_reti HG rfl rfl (fun e1 e2 => hR _ e1 e2)
      · show G m3 _ (23, [(0, .inl (.ref q0)), (1, .inl (.int (y1 &&& (y2 ^^^ (-1 : Int32))))), (2, .inl (.int v3_2))], [], h, 0, 0)
        refine k_steps HG 6 (kb_eq (x := ((y1 &&& (y2 ^^^ (-1 : Int32))) &&& ((1 : Int32) <<< (v3_2 &&& 31)))) (y := (0 : Int32)) ?_ ?_)
        · show G m3 _ (33, [(0, .inl (.ref q0)), (1, .inl (.int (y1 &&& (y2 ^^^ (-1 : Int32))))), (2, .inl (.int v3_2))], [], h, 0, 0)
          refine k_steps HG 2 (zB_iff.mpr (?_ : G m3 _ (15, [(2, .inl (.int (v3_2 + (1 : Int32)))), (0, .inl (.ref q0)), (1, .inl (.int (y1 &&& (y2 ^^^ (-1 : Int32)))))], [], h, 0, 0)))
          refine k_ext HG (L' := [(0, .inl (.ref q0)), (1, .inl (.int (y1 &&& (y2 ^^^ (-1 : Int32))))), (2, .inl (.int (v3_2 + (1 : Int32))))]) rfl rfl ⟨rfl, rfl, rfl, trivial⟩ ?_
          exact ih3 _
        · show G m3 _ (31, [(0, .inl (.ref q0)), (1, .inl (.int (y1 &&& (y2 ^^^ (-1 : Int32))))), (2, .inl (.int v3_2))], [], h, 0, 0)
          refine k_steps HG 1 (zB_iff.mpr (?_ : G m3 _ (32, [(0, .inl (.ref q0)), (1, .inl (.int (y1 &&& (y2 ^^^ (-1 : Int32))))), (2, .inl (.int v3_2))], [.inl (.int v3_2)], h, 0, 0)))
          exact k_reti HG rfl rfl (fun e1 e2 => hR _ e1 e2)
  refine k_ext HG (L' := [(0, .inl (.ref q0)), (1, .inl (.int (y1 &&& (y2 ^^^ (-1 : Int32))))), (2, .inl (.int (0 : Int32)))]) rfl rfl ⟨rfl, rfl, rfl, trivial⟩ ?_
  exact lp3 m (Nat.le_refl _) _
noncomputable def B_X1_likingByAll_4 (h : zH) (c0 : Nat) (c1 : Int32) (s : (Int32 × Int32)) : (Int32 × Int32) ⊕ (Int32) := (if s.2 < (hv h c0 14) then (letf (F_X1_liking h c0 s.2 c1) (fun y1001 => (Sum.inl ((s.1 + y1001), (s.2 + (1 : Int32)))))) else (Sum.inr s.1))
noncomputable def F_X1_likingByAll (h : zH) (q0 : Nat) (a1 : Int32) : Int32 := (fx (B_X1_likingByAll_4 h q0 a1) 0 ((0 : Int32), (0 : Int32)))
theorem x_X1_likingByAll {scr : List zV} {T : List Nat} {h : zH} {q0 : Nat} {a1 : Int32} (hsc : cT scr) (K : hOK kty T h) (hq_q0 : T[q0]? = some 1) (hh : cH h) : xI scr 43 [.inl (.ref q0), .inl (.int a1)] h (F_X1_likingByAll h q0 a1) := by
  refine xI_intro (E := ze_X1_likingByAll) hsc rfl (cTb_ok rfl) hh (fun d r h' G HG Pf hR m => ?_)
  have K := kOK_refl (W := []) K
  unfold F_X1_likingByAll
  show G m _ (0, [(0, .inl (.ref q0)), (1, .inl (.int a1))], [], h, 0, 0)
  refine k_steps HG 4 (zB_iff.mpr (?_ : G m _ (4, [(3, .inl (.int (0 : Int32))), (2, .inl (.int (0 : Int32))), (0, .inl (.ref q0)), (1, .inl (.int a1))], [], h, 0, 0)))
  have lp1 : ∀ m1, m1 ≤ m → ∀ (v1_2 : Int32) (v1_3 : Int32), G m1 (Pf (fx (B_X1_likingByAll_4 h q0 a1) 0 (v1_2, v1_3))) (4, [(0, .inl (.ref q0)), (1, .inl (.int a1)), (2, .inl (.int v1_2)), (3, .inl (.int v1_3))], [], h, 0, 0) := by
    intro m1
    induction m1 with
    | zero =>
      intros
      exact k_zero HG
    | succ m1 ih1 =>
      intro le1 v1_2 v1_3
      have le1 := Nat.le_of_succ_le le1
      have ih1 := ih1 le1
      refine k_fx ?_
      rw [B_X1_likingByAll_4]
      refine k_first HG 1 (zB_iff.mpr (?_ : G m1 _ (6, [(0, .inl (.ref q0)), (1, .inl (.int a1)), (2, .inl (.int v1_2)), (3, .inl (.int v1_3))], [.inl (.ref q0), .inl (.int v1_3)], h, 0, 0)))
      refine k_getI HG rfl K hq_q0 rfl (Nat.le_of_ble_eq_true rfl) rfl (?_ : G m1 _ (9, [(0, .inl (.ref q0)), (1, .inl (.int a1)), (2, .inl (.int v1_2)), (3, .inl (.int v1_3))], [.inl (.int (hv h q0 14)), .inl (.int v1_3)], h, 0, 0))
      refine k_steps HG 1 (kb_ge (x := v1_3) (y := (hv h q0 14)) ?_ ?_)
      · show G m1 _ (27, [(0, .inl (.ref q0)), (1, .inl (.int a1)), (2, .inl (.int v1_2)), (3, .inl (.int v1_3))], [], h, 0, 0)
        refine k_steps HG 1 (zB_iff.mpr (?_ : G m1 _ (28, [(0, .inl (.ref q0)), (1, .inl (.int a1)), (2, .inl (.int v1_2)), (3, .inl (.int v1_3))], [.inl (.int v1_2)], h, 0, 0)))
        exact k_reti HG rfl rfl (fun e1 e2 => hR _ e1 e2)
      · show G m1 _ (12, [(0, .inl (.ref q0)), (1, .inl (.int a1)), (2, .inl (.int v1_2)), (3, .inl (.int v1_3))], [], h, 0, 0)
        refine k_steps HG 4 (zB_iff.mpr (?_ : G m1 _ (16, [(0, .inl (.ref q0)), (1, .inl (.int a1)), (2, .inl (.int v1_2)), (3, .inl (.int v1_3))], [.inl (.int a1), .inl (.int v1_3), .inl (.ref q0), .inl (.int v1_2)], h, 0, 0)))
        refine k_cVI HG (E' := ze_X1_liking) (Or.inl ⟨rfl, rfl⟩) hsc rfl rfl rfl rfl rfl (fun hh => x_X1_liking hsc K.1 hq_q0 hh) (fun y2 => (?_ : G m1 _ (19, [(0, .inl (.ref q0)), (1, .inl (.int a1)), (2, .inl (.int v1_2)), (3, .inl (.int v1_3))], [.inl (.int y2), .inl (.int v1_2)], h, 0, 0)))
        refine k_steps HG 4 (zB_iff.mpr (?_ : G m1 _ (4, [(3, .inl (.int (v1_3 + (1 : Int32)))), (2, .inl (.int (v1_2 + y2))), (0, .inl (.ref q0)), (1, .inl (.int a1))], [], h, 0, 0)))
        refine k_ext HG (L' := [(0, .inl (.ref q0)), (1, .inl (.int a1)), (2, .inl (.int (v1_2 + y2))), (3, .inl (.int (v1_3 + (1 : Int32))))]) rfl rfl ⟨rfl, rfl, rfl, rfl, trivial⟩ ?_
        exact ih1 _ _
  refine k_ext HG (L' := [(0, .inl (.ref q0)), (1, .inl (.int a1)), (2, .inl (.int (0 : Int32))), (3, .inl (.int (0 : Int32)))]) rfl rfl ⟨rfl, rfl, rfl, rfl, trivial⟩ ?_
  exact lp1 m (Nat.le_refl _) _ _
noncomputable def B_X1_likingOfAll_5 (h : zH) (c0 : Nat) (c1 : Int32) (c2 : Int32) (s : (Int32 × Int32)) : (Int32 × Int32) ⊕ (Int32) := (if s.2 < (hv h c0 8) then (if (c2 &&& ((1 : Int32) <<< (s.2 &&& 31))) = (0 : Int32) then (Sum.inl (s.1, (s.2 + (1 : Int32)))) else (letf (F_X1_liking h c0 c1 s.2) (fun y1001 => (Sum.inl ((s.1 + y1001), (s.2 + (1 : Int32))))))) else (Sum.inr s.1))
noncomputable def F_X1_likingOfAll (h : zH) (q0 : Nat) (a1 : Int32) (a2 : Int32) : Int32 := (fx (B_X1_likingOfAll_5 h q0 a1 a2) 0 ((0 : Int32), (0 : Int32)))
theorem x_X1_likingOfAll {scr : List zV} {T : List Nat} {h : zH} {q0 : Nat} {a1 : Int32} {a2 : Int32} (hsc : cT scr) (K : hOK kty T h) (hq_q0 : T[q0]? = some 1) (hh : cH h) : xI scr 44 [.inl (.ref q0), .inl (.int a1), .inl (.int a2)] h (F_X1_likingOfAll h q0 a1 a2) := by
  refine xI_intro (E := ze_X1_likingOfAll) hsc rfl (cTb_ok rfl) hh (fun d r h' G HG Pf hR m => ?_)
  have K := kOK_refl (W := []) K
  unfold F_X1_likingOfAll
  show G m _ (0, [(0, .inl (.ref q0)), (1, .inl (.int a1)), (2, .inl (.int a2))], [], h, 0, 0)
  refine k_steps HG 4 (zB_iff.mpr (?_ : G m _ (5, [(4, .inl (.int (0 : Int32))), (3, .inl (.int (0 : Int32))), (0, .inl (.ref q0)), (1, .inl (.int a1)), (2, .inl (.int a2))], [], h, 0, 0)))
  have lp1 : ∀ m1, m1 ≤ m → ∀ (v1_3 : Int32) (v1_4 : Int32), G m1 (Pf (fx (B_X1_likingOfAll_5 h q0 a1 a2) 0 (v1_3, v1_4))) (5, [(0, .inl (.ref q0)), (1, .inl (.int a1)), (2, .inl (.int a2)), (3, .inl (.int v1_3)), (4, .inl (.int v1_4))], [], h, 0, 0) := by
    intro m1
    induction m1 with
    | zero =>
      intros
      exact k_zero HG
    | succ m1 ih1 =>
      intro le1 v1_3 v1_4
      have le1 := Nat.le_of_succ_le le1
      have ih1 := ih1 le1
      refine k_fx ?_
      rw [B_X1_likingOfAll_5]
      refine k_first HG 1 (zB_iff.mpr (?_ : G m1 _ (8, [(0, .inl (.ref q0)), (1, .inl (.int a1)), (2, .inl (.int a2)), (3, .inl (.int v1_3)), (4, .inl (.int v1_4))], [.inl (.ref q0), .inl (.int v1_4)], h, 0, 0)))
      refine k_getI HG rfl K hq_q0 rfl (Nat.le_of_ble_eq_true rfl) rfl (?_ : G m1 _ (11, [(0, .inl (.ref q0)), (1, .inl (.int a1)), (2, .inl (.int a2)), (3, .inl (.int v1_3)), (4, .inl (.int v1_4))], [.inl (.int (hv h q0 8)), .inl (.int v1_4)], h, 0, 0))
      refine k_steps HG 1 (kb_ge (x := v1_4) (y := (hv h q0 8)) ?_ ?_)
      · show G m1 _ (39, [(0, .inl (.ref q0)), (1, .inl (.int a1)), (2, .inl (.int a2)), (3, .inl (.int v1_3)), (4, .inl (.int v1_4))], [], h, 0, 0)
        refine k_steps HG 1 (zB_iff.mpr (?_ : G m1 _ (40, [(0, .inl (.ref q0)), (1, .inl (.int a1)), (2, .inl (.int a2)), (3, .inl (.int v1_3)), (4, .inl (.int v1_4))], [.inl (.int v1_3)], h, 0, 0)))
        exact k_reti HG rfl rfl (fun e1 e2 => hR _ e1 e2)
      · show G m1 _ (14, [(0, .inl (.ref q0)), (1, .inl (.int a1)), (2, .inl (.int a2)), (3, .inl (.int v1_3)), (4, .inl (.int v1_4))], [], h, 0, 0)
        refine k_steps HG 6 (kb_eq (x := (a2 &&& ((1 : Int32) <<< (v1_4 &&& 31)))) (y := (0 : Int32)) ?_ ?_)
        · show G m1 _ (33, [(0, .inl (.ref q0)), (1, .inl (.int a1)), (2, .inl (.int a2)), (3, .inl (.int v1_3)), (4, .inl (.int v1_4))], [], h, 0, 0)
          refine k_steps HG 2 (zB_iff.mpr (?_ : G m1 _ (5, [(4, .inl (.int (v1_4 + (1 : Int32)))), (0, .inl (.ref q0)), (1, .inl (.int a1)), (2, .inl (.int a2)), (3, .inl (.int v1_3))], [], h, 0, 0)))
          refine k_ext HG (L' := [(0, .inl (.ref q0)), (1, .inl (.int a1)), (2, .inl (.int a2)), (3, .inl (.int v1_3)), (4, .inl (.int (v1_4 + (1 : Int32))))]) rfl rfl ⟨rfl, rfl, rfl, rfl, rfl, trivial⟩ ?_
          exact ih1 _ _
        · show G m1 _ (23, [(0, .inl (.ref q0)), (1, .inl (.int a1)), (2, .inl (.int a2)), (3, .inl (.int v1_3)), (4, .inl (.int v1_4))], [], h, 0, 0)
          refine k_steps HG 4 (zB_iff.mpr (?_ : G m1 _ (28, [(0, .inl (.ref q0)), (1, .inl (.int a1)), (2, .inl (.int a2)), (3, .inl (.int v1_3)), (4, .inl (.int v1_4))], [.inl (.int v1_4), .inl (.int a1), .inl (.ref q0), .inl (.int v1_3)], h, 0, 0)))
          refine k_cVI HG (E' := ze_X1_liking) (Or.inl ⟨rfl, rfl⟩) hsc rfl rfl rfl rfl rfl (fun hh => x_X1_liking hsc K.1 hq_q0 hh) (fun y2 => (?_ : G m1 _ (31, [(0, .inl (.ref q0)), (1, .inl (.int a1)), (2, .inl (.int a2)), (3, .inl (.int v1_3)), (4, .inl (.int v1_4))], [.inl (.int y2), .inl (.int v1_3)], h, 0, 0)))
          refine k_steps HG 4 (zB_iff.mpr (?_ : G m1 _ (5, [(4, .inl (.int (v1_4 + (1 : Int32)))), (3, .inl (.int (v1_3 + y2))), (0, .inl (.ref q0)), (1, .inl (.int a1)), (2, .inl (.int a2))], [], h, 0, 0)))
          refine k_ext HG (L' := [(0, .inl (.ref q0)), (1, .inl (.int a1)), (2, .inl (.int a2)), (3, .inl (.int (v1_3 + y2))), (4, .inl (.int (v1_4 + (1 : Int32))))]) rfl rfl ⟨rfl, rfl, rfl, rfl, rfl, trivial⟩ ?_
          exact ih1 _ _
  refine k_ext HG (L' := [(0, .inl (.ref q0)), (1, .inl (.int a1)), (2, .inl (.int a2)), (3, .inl (.int (0 : Int32))), (4, .inl (.int (0 : Int32)))]) rfl rfl ⟨rfl, rfl, rfl, rfl, rfl, trivial⟩ ?_
  exact lp1 m (Nat.le_refl _) _ _
noncomputable def F_X1_slipsToSink (h : zH) (q0 : Nat) : Int32 := (letf (F_X1_countIn h q0) (fun y1 => (jmax (0 : Int32) (y1 - ((hv h q0 0) / (2 : Int32))))))
theorem x_X1_slipsToSink {scr : List zV} {T : List Nat} {h : zH} {q0 : Nat} (hsc : cT scr) (K : hOK kty T h) (hq_q0 : T[q0]? = some 1) (hh : cH h) : xI scr 51 [.inl (.ref q0)] h (F_X1_slipsToSink h q0) := by
  refine xI_intro (E := ze_X1_slipsToSink) hsc rfl (cTb_ok rfl) hh (fun d r h' G HG Pf hR m => ?_)
  have K := kOK_refl (W := []) K
  unfold F_X1_slipsToSink
  show G m _ (0, [(0, .inl (.ref q0))], [], h, 0, 0)
  refine k_steps HG 2 (zB_iff.mpr (?_ : G m _ (2, [(0, .inl (.ref q0))], [.inl (.ref q0), .inl (.int (0 : Int32))], h, 0, 0)))
  refine k_cVI HG (E' := ze_X1_countIn) (Or.inl ⟨rfl, rfl⟩) hsc rfl rfl rfl rfl rfl (fun hh => x_X1_countIn hsc K.1 hq_q0 hh) (fun y1 => (?_ : G m _ (5, [(0, .inl (.ref q0))], [.inl (.int y1), .inl (.int (0 : Int32))], h, 0, 0)))
  refine k_steps HG 1 (zB_iff.mpr (?_ : G m _ (6, [(0, .inl (.ref q0))], [.inl (.ref q0), .inl (.int y1), .inl (.int (0 : Int32))], h, 0, 0)))
  refine k_getI HG rfl K hq_q0 rfl (Nat.le_of_ble_eq_true rfl) rfl (?_ : G m _ (9, [(0, .inl (.ref q0))], [.inl (.int (hv h q0 0)), .inl (.int y1), .inl (.int (0 : Int32))], h, 0, 0))
  refine k_steps HG 1 (zB_iff.mpr (?_ : G m _ (10, [(0, .inl (.ref q0))], [.inl (.int (2 : Int32)), .inl (.int (hv h q0 0)), .inl (.int y1), .inl (.int (0 : Int32))], h, 0, 0)))
  refine k_div HG rfl (?_ : G m _ (11, [(0, .inl (.ref q0))], [.inl (.int ((hv h q0 0) / (2 : Int32))), .inl (.int y1), .inl (.int (0 : Int32))], h, 0, 0))
  refine k_steps HG 2 (zB_iff.mpr (?_ : G m _ (15, [(0, .inl (.ref q0))], [.inl (.int (jmax (0 : Int32) (y1 - ((hv h q0 0) / (2 : Int32)))))], h, 0, 0)))
  exact k_reti HG rfl rfl (fun e1 e2 => hR _ e1 e2)
def W_X2_readNumber : List (Nat × Nat) := [(2, 2), (2, 3), (2, 4), (2, 5)]
noncomputable def F_X2_readNumber (h : zH) (q0 : Nat) (a1 : Int32) (a2 : Int32) : Int32 × zH := (letf (F_X2_step h q0) (fun h1 => (if (hv h1 q0 2) = (2 : Int32) then (if (hv h1 q0 5) = (-1 : Int32) then ((0 : Int32), h1) else (letf (F_X4_isWithin (hv h1 q0 5) a1 a2) (fun y2 => (if y2 = (0 : Int32) then ((0 : Int32), h1) else ((1 : Int32), h1))))) else ((0 : Int32), h1))))
theorem x_X2_readNumber {scr : List zV} {T : List Nat} {h : zH} {q0 : Nat} {a1 : Int32} {a2 : Int32} (hsc : cT scr) (K : hOK kty T h) (hq_q0 : T[q0]? = some 2) (hh : cH h) : xIH scr W_X2_readNumber T T 67 [.inl (.ref q0), .inl (.int a1), .inl (.int a2)] h (F_X2_readNumber h q0 a1 a2) := by
  refine xIH_intro (E := ze_X2_readNumber) hsc rfl (cTb_ok rfl) hh (fun d r h' G HG Pf hR m => ?_)
  have K := kOK_refl (W := W_X2_readNumber) K
  unfold F_X2_readNumber
  show G m _ (0, [(0, .inl (.ref q0)), (1, .inl (.int a1)), (2, .inl (.int a2))], [], h, 0, 0)
  refine k_steps HG 1 (zB_iff.mpr (?_ : G m _ (1, [(0, .inl (.ref q0)), (1, .inl (.int a1)), (2, .inl (.int a2))], [.inl (.ref q0)], h, 0, 0)))
  refine k_cVH HG (E' := ze_X2_step) (Or.inl ⟨rfl, rfl⟩) hsc rfl rfl rfl rfl rfl K rfl (fun hh => x_X2_step hsc K.1 hq_q0 hh) (fun h1 K1 => (?_ : G m _ (4, [(0, .inl (.ref q0)), (1, .inl (.int a1)), (2, .inl (.int a2))], [], h1, 0, 0)))
  refine k_steps HG 1 (zB_iff.mpr (?_ : G m _ (5, [(0, .inl (.ref q0)), (1, .inl (.int a1)), (2, .inl (.int a2))], [.inl (.ref q0)], h1, 0, 0)))
  refine k_getI HG rfl K1 hq_q0 rfl (Nat.le_of_ble_eq_true rfl) rfl (?_ : G m _ (8, [(0, .inl (.ref q0)), (1, .inl (.int a1)), (2, .inl (.int a2))], [.inl (.int (hv h1 q0 2))], h1, 0, 0))
  refine k_steps HG 2 (kb_ne (x := (hv h1 q0 2)) (y := (2 : Int32)) ?_ ?_)
  · show G m _ (36, [(0, .inl (.ref q0)), (1, .inl (.int a1)), (2, .inl (.int a2))], [], h1, 0, 0)
    refine k_steps HG 1 (zB_iff.mpr (?_ : G m _ (37, [(0, .inl (.ref q0)), (1, .inl (.int a1)), (2, .inl (.int a2))], [.inl (.int (0 : Int32))], h1, 0, 0)))
    exact k_retz HG rfl rfl (fun e1 e2 => hR _ _ e1 e2 K1)
  · show G m _ (12, [(0, .inl (.ref q0)), (1, .inl (.int a1)), (2, .inl (.int a2))], [], h1, 0, 0)
    refine k_steps HG 1 (zB_iff.mpr (?_ : G m _ (13, [(0, .inl (.ref q0)), (1, .inl (.int a1)), (2, .inl (.int a2))], [.inl (.ref q0)], h1, 0, 0)))
    refine k_getI HG rfl K1 hq_q0 rfl (Nat.le_of_ble_eq_true rfl) rfl (?_ : G m _ (16, [(0, .inl (.ref q0)), (1, .inl (.int a1)), (2, .inl (.int a2))], [.inl (.int (hv h1 q0 5))], h1, 0, 0))
    refine k_steps HG 2 (kb_eq (x := (hv h1 q0 5)) (y := (-1 : Int32)) ?_ ?_)
    · show G m _ (36, [(0, .inl (.ref q0)), (1, .inl (.int a1)), (2, .inl (.int a2))], [], h1, 0, 0)
      refine k_steps HG 1 (zB_iff.mpr (?_ : G m _ (37, [(0, .inl (.ref q0)), (1, .inl (.int a1)), (2, .inl (.int a2))], [.inl (.int (0 : Int32))], h1, 0, 0)))
      exact k_retz HG rfl rfl (fun e1 e2 => hR _ _ e1 e2 K1)
    · show G m _ (20, [(0, .inl (.ref q0)), (1, .inl (.int a1)), (2, .inl (.int a2))], [], h1, 0, 0)
      refine k_steps HG 1 (zB_iff.mpr (?_ : G m _ (21, [(0, .inl (.ref q0)), (1, .inl (.int a1)), (2, .inl (.int a2))], [.inl (.ref q0)], h1, 0, 0)))
      refine k_getI HG rfl K1 hq_q0 rfl (Nat.le_of_ble_eq_true rfl) rfl (?_ : G m _ (24, [(0, .inl (.ref q0)), (1, .inl (.int a1)), (2, .inl (.int a2))], [.inl (.int (hv h1 q0 5))], h1, 0, 0))
      refine k_steps HG 2 (zB_iff.mpr (?_ : G m _ (26, [(0, .inl (.ref q0)), (1, .inl (.int a1)), (2, .inl (.int a2))], [.inl (.int a2), .inl (.int a1), .inl (.int (hv h1 q0 5))], h1, 0, 0)))
      refine k_cSI HG (E' := ze_X4_isWithin) (Or.inr rfl) hsc rfl rfl rfl rfl (fun hh => x_X4_isWithin hsc hh) (fun y2 => (?_ : G m _ (29, [(0, .inl (.ref q0)), (1, .inl (.int a1)), (2, .inl (.int a2))], [.inl (.int y2)], h1, 0, 0)))
      refine k_steps HG 1 (kb_eq (x := y2) (y := (0 : Int32)) ?_ ?_)
      · show G m _ (36, [(0, .inl (.ref q0)), (1, .inl (.int a1)), (2, .inl (.int a2))], [], h1, 0, 0)
        refine k_steps HG 1 (zB_iff.mpr (?_ : G m _ (37, [(0, .inl (.ref q0)), (1, .inl (.int a1)), (2, .inl (.int a2))], [.inl (.int (0 : Int32))], h1, 0, 0)))
        exact k_retz HG rfl rfl (fun e1 e2 => hR _ _ e1 e2 K1)
      · show G m _ (32, [(0, .inl (.ref q0)), (1, .inl (.int a1)), (2, .inl (.int a2))], [], h1, 0, 0)
        refine k_steps HG 2 (zB_iff.mpr (?_ : G m _ (37, [(0, .inl (.ref q0)), (1, .inl (.int a1)), (2, .inl (.int a2))], [.inl (.int (1 : Int32))], h1, 0, 0)))
        exact k_retz HG rfl rfl (fun e1 e2 => hR _ _ e1 e2 K1)
noncomputable def F_X3_hasState (a0 : Int32) (a1 : Int32) : Int32 := (letf (F_X4_isWithin a0 (0 : Int32) (60 : Int32)) (fun y1 => (if y1 = (0 : Int32) then (0 : Int32) else (letf (F_X3_isSet a1) (fun y2 => (if y2 = (0 : Int32) then (0 : Int32) else (1 : Int32)))))))
theorem x_X3_hasState {scr : List zV} {h : zH} {a0 : Int32} {a1 : Int32} (hsc : cT scr) (hh : cH h) : xI scr 79 [.inl (.int a0), .inl (.int a1)] h (F_X3_hasState a0 a1) := by
  refine xI_intro (E := ze_X3_hasState) hsc rfl (cTb_ok rfl) hh (fun d r h' G HG Pf hR m => ?_)
  unfold F_X3_hasState
  show G m _ (0, [(0, .inl (.int a0)), (1, .inl (.int a1))], [], h, 0, 0)
  refine k_steps HG 3 (zB_iff.mpr (?_ : G m _ (4, [(0, .inl (.int a0)), (1, .inl (.int a1))], [.inl (.int (60 : Int32)), .inl (.int (0 : Int32)), .inl (.int a0)], h, 0, 0)))
  refine k_cSI HG (E' := ze_X4_isWithin) (Or.inr rfl) hsc rfl rfl rfl rfl (fun hh => x_X4_isWithin hsc hh) (fun y1 => (?_ : G m _ (7, [(0, .inl (.int a0)), (1, .inl (.int a1))], [.inl (.int y1)], h, 0, 0)))
  refine k_steps HG 1 (kb_eq (x := y1) (y := (0 : Int32)) ?_ ?_)
  · show G m _ (21, [(0, .inl (.int a0)), (1, .inl (.int a1))], [], h, 0, 0)
    refine k_steps HG 1 (zB_iff.mpr (?_ : G m _ (22, [(0, .inl (.int a0)), (1, .inl (.int a1))], [.inl (.int (0 : Int32))], h, 0, 0)))
    exact k_retz HG rfl rfl (fun e1 e2 => hR _ e1 e2)
  · show G m _ (10, [(0, .inl (.int a0)), (1, .inl (.int a1))], [], h, 0, 0)
    refine k_steps HG 1 (zB_iff.mpr (?_ : G m _ (11, [(0, .inl (.int a0)), (1, .inl (.int a1))], [.inl (.int a1)], h, 0, 0)))
    refine k_cSI HG (E' := ze_X3_isSet) (Or.inl rfl) hsc rfl rfl rfl rfl (fun hh => x_X3_isSet hsc hh) (fun y2 => (?_ : G m _ (14, [(0, .inl (.int a0)), (1, .inl (.int a1))], [.inl (.int y2)], h, 0, 0)))
    refine k_steps HG 1 (kb_eq (x := y2) (y := (0 : Int32)) ?_ ?_)
    · show G m _ (21, [(0, .inl (.int a0)), (1, .inl (.int a1))], [], h, 0, 0)
      refine k_steps HG 1 (zB_iff.mpr (?_ : G m _ (22, [(0, .inl (.int a0)), (1, .inl (.int a1))], [.inl (.int (0 : Int32))], h, 0, 0)))
      exact k_retz HG rfl rfl (fun e1 e2 => hR _ e1 e2)
    · show G m _ (17, [(0, .inl (.int a0)), (1, .inl (.int a1))], [], h, 0, 0)
      refine k_steps HG 2 (zB_iff.mpr (?_ : G m _ (22, [(0, .inl (.int a0)), (1, .inl (.int a1))], [.inl (.int (1 : Int32))], h, 0, 0)))
      exact k_retz HG rfl rfl (fun e1 e2 => hR _ e1 e2)
def W_X3_lookAt : List (Nat × Nat) := [(3, 3), (3, 4), (3, 5), (3, 6), (19, 1000), (20, 1000)]
noncomputable def B_X3_lookAt_60 (c0 : Nat) (c1 : Nat) (s : (Int32 × zH)) : (Int32 × zH) ⊕ ((Int32 × zH) ⊕ (zH)) := (if s.1 < (488 : Int32) then (letf (hput s.2 (hr s.2 c0 1) s.1.toNatClampNeg (.inl (.int (0 : Int32)))) (fun h2003 => (Sum.inl ((s.1 + (1 : Int32)), h2003)))) else (Sum.inr (Sum.inr s.2)))
noncomputable def B_X3_lookAt_36 (c0 : Nat) (c1 : Nat) (s : (Int32 × zH)) : (Int32 × zH) ⊕ (zH) := (if s.1 < (256 : Int32) then (letf (hput s.2 (hr s.2 c0 0) s.1.toNatClampNeg (.inl (.int (0 : Int32)))) (fun h1007 => (Sum.inl ((s.1 + (1 : Int32)), h1007)))) else (fx (B_X3_lookAt_60 c0 c1) (Sum.inr []) ((0 : Int32), s.2)))
noncomputable def F_X3_lookAt (h : zH) (q0 : Nat) (q1 : Nat) : zH := (letf (hput h q0 3 (.inl (.int (hv h q1 8)))) (fun h1 => (letf (F_X1_standing h1 q1) (fun y2 => (letf (hput h1 q0 4 (.inl (.int y2))) (fun h3 => (letf (F_X1_thingsUnder h3 q1 (3 : Int32)) (fun y4 => (letf (hput h3 q0 5 (.inl (.int y4))) (fun h5 => (letf (F_X1_thingsUnder h5 q1 (1 : Int32)) (fun y6 => (letf (hput h5 q0 6 (.inl (.int y6))) (fun h7 => (fx (B_X3_lookAt_36 q0 q1) [] ((0 : Int32), h7))))))))))))))))
theorem x_X3_lookAt {scr : List zV} {T : List Nat} {h : zH} {q0 : Nat} {q1 : Nat} (hsc : cT scr) (K : hOK kty T h) (hq_q0 : T[q0]? = some 3) (hq_q1 : T[q1]? = some 1) (hh : cH h) : xH scr W_X3_lookAt T T 81 [.inl (.ref q0), .inl (.ref q1)] h (F_X3_lookAt h q0 q1) := by
  refine xH_intro (E := ze_X3_lookAt) hsc rfl (cTb_ok rfl) hh (fun d r h' G HG Pf hR m => ?_)
  have K := kOK_refl (W := W_X3_lookAt) K
  unfold F_X3_lookAt
  show G m _ (0, [(0, .inl (.ref q0)), (1, .inl (.ref q1))], [], h, 0, 0)
  refine k_steps HG 2 (zB_iff.mpr (?_ : G m _ (2, [(0, .inl (.ref q0)), (1, .inl (.ref q1))], [.inl (.ref q1), .inl (.ref q0)], h, 0, 0)))
  refine k_getI HG rfl K hq_q1 rfl (Nat.le_of_ble_eq_true rfl) rfl (?_ : G m _ (5, [(0, .inl (.ref q0)), (1, .inl (.ref q1))], [.inl (.int (hv h q1 8)), .inl (.ref q0)], h, 0, 0))
  refine k_putI HG rfl K hq_q0 rfl rfl rfl (fun h1 K1 => (?_ : G m _ (8, [(0, .inl (.ref q0)), (1, .inl (.ref q1))], [], h1, 0, 0)))
  refine k_steps HG 2 (zB_iff.mpr (?_ : G m _ (10, [(0, .inl (.ref q0)), (1, .inl (.ref q1))], [.inl (.ref q1), .inl (.ref q0)], h1, 0, 0)))
  refine k_cVI HG (E' := ze_X1_standing) (Or.inl ⟨rfl, rfl⟩) hsc rfl rfl rfl rfl rfl (fun hh => x_X1_standing hsc K1.1 hq_q1 hh) (fun y2 => (?_ : G m _ (13, [(0, .inl (.ref q0)), (1, .inl (.ref q1))], [.inl (.int y2), .inl (.ref q0)], h1, 0, 0)))
  refine k_putI HG rfl K1 hq_q0 rfl rfl rfl (fun h3 K3 => (?_ : G m _ (16, [(0, .inl (.ref q0)), (1, .inl (.ref q1))], [], h3, 0, 0)))
  refine k_steps HG 3 (zB_iff.mpr (?_ : G m _ (19, [(0, .inl (.ref q0)), (1, .inl (.ref q1))], [.inl (.int (3 : Int32)), .inl (.ref q1), .inl (.ref q0)], h3, 0, 0)))
  refine k_cVI HG (E' := ze_X1_thingsUnder) (Or.inl ⟨rfl, rfl⟩) hsc rfl rfl rfl rfl rfl (fun hh => x_X1_thingsUnder hsc K3.1 hq_q1 hh) (fun y4 => (?_ : G m _ (22, [(0, .inl (.ref q0)), (1, .inl (.ref q1))], [.inl (.int y4), .inl (.ref q0)], h3, 0, 0)))
  refine k_putI HG rfl K3 hq_q0 rfl rfl rfl (fun h5 K5 => (?_ : G m _ (25, [(0, .inl (.ref q0)), (1, .inl (.ref q1))], [], h5, 0, 0)))
  refine k_steps HG 3 (zB_iff.mpr (?_ : G m _ (28, [(0, .inl (.ref q0)), (1, .inl (.ref q1))], [.inl (.int (1 : Int32)), .inl (.ref q1), .inl (.ref q0)], h5, 0, 0)))
  refine k_cVI HG (E' := ze_X1_thingsUnder) (Or.inl ⟨rfl, rfl⟩) hsc rfl rfl rfl rfl rfl (fun hh => x_X1_thingsUnder hsc K5.1 hq_q1 hh) (fun y6 => (?_ : G m _ (31, [(0, .inl (.ref q0)), (1, .inl (.ref q1))], [.inl (.int y6), .inl (.ref q0)], h5, 0, 0)))
  refine k_putI HG rfl K5 hq_q0 rfl rfl rfl (fun h7 K7 => (?_ : G m _ (34, [(0, .inl (.ref q0)), (1, .inl (.ref q1))], [], h7, 0, 0)))
  refine k_steps HG 2 (zB_iff.mpr (?_ : G m _ (36, [(2, .inl (.int (0 : Int32))), (0, .inl (.ref q0)), (1, .inl (.ref q1))], [], h7, 0, 0)))
  have lp8 : ∀ m8, m8 ≤ m → ∀ (v8_2 : Int32) (h8 : zH), kOK W_X3_lookAt T T h h8 → G m8 (Pf (fx (B_X3_lookAt_36 q0 q1) [] (v8_2, h8))) (36, [(0, .inl (.ref q0)), (1, .inl (.ref q1)), (2, .inl (.int v8_2))], [], h8, 0, 0) := by
    intro m8
    induction m8 with
    | zero =>
      intros
      exact k_zero HG
    | succ m8 ih8 =>
      intro le8 v8_2 h8 K8
      have le8 := Nat.le_of_succ_le le8
      have ih8 := ih8 le8
      refine k_fx ?_
      rw [B_X3_lookAt_36]
      refine k_first HG 1 (zB_iff.mpr (?_ : G m8 _ (38, [(0, .inl (.ref q0)), (1, .inl (.ref q1)), (2, .inl (.int v8_2))], [.inl (.ref q0), .inl (.int v8_2)], h8, 0, 0)))
      refine k_getR HG rfl K8 hq_q0 rfl (Nat.le_of_ble_eq_true rfl) rfl rfl (fun t9 => (?_ : G m8 _ (41, [(0, .inl (.ref q0)), (1, .inl (.ref q1)), (2, .inl (.int v8_2))], [.inl (.ref (hr h8 q0 0)), .inl (.int v8_2)], h8, 0, 0)))
      refine k_len HG rfl K8 t9 (Nat.le_of_ble_eq_true rfl) rfl (?_ : G m8 _ (42, [(0, .inl (.ref q0)), (1, .inl (.ref q1)), (2, .inl (.int v8_2))], [.inl (.int (256 : Int32)), .inl (.int v8_2)], h8, 0, 0))
      refine k_steps HG 1 (kb_ge (x := v8_2) (y := (256 : Int32)) ?_ ?_)
      · show G m8 _ (58, [(0, .inl (.ref q0)), (1, .inl (.ref q1)), (2, .inl (.int v8_2))], [], h8, 0, 0)
        refine k_steps HG 2 (zB_iff.mpr (?_ : G m8 _ (60, [(2, .inl (.int (0 : Int32))), (0, .inl (.ref q0)), (1, .inl (.ref q1))], [], h8, 0, 0)))
        have lp10 : ∀ m10, m10 ≤ m8 → ∀ (v10_2 : Int32) (h10 : zH), kOK W_X3_lookAt T T h h10 → G m10 ((fxP Pf (B_X3_lookAt_36 q0 q1) []) (fx (B_X3_lookAt_60 q0 q1) (Sum.inr []) (v10_2, h10))) (60, [(0, .inl (.ref q0)), (1, .inl (.ref q1)), (2, .inl (.int v10_2))], [], h10, 0, 0) := by
          intro m10
          induction m10 with
          | zero =>
            intros
            exact k_zero HG
          | succ m10 ih10 =>
            intro le10 v10_2 h10 K10
            have le10 := Nat.le_of_succ_le le10
            have ih10 := ih10 le10
            refine k_fx ?_
            rw [B_X3_lookAt_60]
            refine k_first HG 1 (zB_iff.mpr (?_ : G m10 _ (62, [(0, .inl (.ref q0)), (1, .inl (.ref q1)), (2, .inl (.int v10_2))], [.inl (.ref q0), .inl (.int v10_2)], h10, 0, 0)))
            refine k_getR HG rfl K10 hq_q0 rfl (Nat.le_of_ble_eq_true rfl) rfl rfl (fun t11 => (?_ : G m10 _ (65, [(0, .inl (.ref q0)), (1, .inl (.ref q1)), (2, .inl (.int v10_2))], [.inl (.ref (hr h10 q0 1)), .inl (.int v10_2)], h10, 0, 0)))
            refine k_len HG rfl K10 t11 (Nat.le_of_ble_eq_true rfl) rfl (?_ : G m10 _ (66, [(0, .inl (.ref q0)), (1, .inl (.ref q1)), (2, .inl (.int v10_2))], [.inl (.int (488 : Int32)), .inl (.int v10_2)], h10, 0, 0))
            refine k_steps HG 1 (kb_ge (x := v10_2) (y := (488 : Int32)) ?_ ?_)
            · show G m10 _ (82, [(0, .inl (.ref q0)), (1, .inl (.ref q1)), (2, .inl (.int v10_2))], [], h10, 0, 0)
              exact k_retv HG rfl rfl (fun e1 e2 => hR _ e1 e2 K10)
            · show G m10 _ (69, [(0, .inl (.ref q0)), (1, .inl (.ref q1)), (2, .inl (.int v10_2))], [], h10, 0, 0)
              refine k_steps HG 1 (zB_iff.mpr (?_ : G m10 _ (70, [(0, .inl (.ref q0)), (1, .inl (.ref q1)), (2, .inl (.int v10_2))], [.inl (.ref q0)], h10, 0, 0)))
              refine k_getR HG rfl K10 hq_q0 rfl (Nat.le_of_ble_eq_true rfl) rfl rfl (fun t12 => (?_ : G m10 _ (73, [(0, .inl (.ref q0)), (1, .inl (.ref q1)), (2, .inl (.int v10_2))], [.inl (.ref (hr h10 q0 1))], h10, 0, 0)))
              refine k_steps HG 2 (zB_iff.mpr (?_ : G m10 _ (75, [(0, .inl (.ref q0)), (1, .inl (.ref q1)), (2, .inl (.int v10_2))], [.inl (.int (0 : Int32)), .inl (.int v10_2), .inl (.ref (hr h10 q0 1))], h10, 0, 0)))
              refine k_iast HG rfl K10 t12 rfl (fun _ => rfl) rfl (fun h13 K13 => (?_ : G m10 _ (76, [(0, .inl (.ref q0)), (1, .inl (.ref q1)), (2, .inl (.int v10_2))], [], h13, 0, 0)))
              refine k_steps HG 2 (zB_iff.mpr (?_ : G m10 _ (60, [(2, .inl (.int (v10_2 + (1 : Int32)))), (0, .inl (.ref q0)), (1, .inl (.ref q1))], [], h13, 0, 0)))
              refine k_ext HG (L' := [(0, .inl (.ref q0)), (1, .inl (.ref q1)), (2, .inl (.int (v10_2 + (1 : Int32))))]) rfl rfl ⟨rfl, rfl, rfl, trivial⟩ ?_
              exact ih10 _ _ K13
        refine k_ext HG (L' := [(0, .inl (.ref q0)), (1, .inl (.ref q1)), (2, .inl (.int (0 : Int32)))]) rfl rfl ⟨rfl, rfl, rfl, trivial⟩ ?_
        exact lp10 m8 (Nat.le_refl _) _ _ K8
      · show G m8 _ (45, [(0, .inl (.ref q0)), (1, .inl (.ref q1)), (2, .inl (.int v8_2))], [], h8, 0, 0)
        refine k_steps HG 1 (zB_iff.mpr (?_ : G m8 _ (46, [(0, .inl (.ref q0)), (1, .inl (.ref q1)), (2, .inl (.int v8_2))], [.inl (.ref q0)], h8, 0, 0)))
        refine k_getR HG rfl K8 hq_q0 rfl (Nat.le_of_ble_eq_true rfl) rfl rfl (fun t14 => (?_ : G m8 _ (49, [(0, .inl (.ref q0)), (1, .inl (.ref q1)), (2, .inl (.int v8_2))], [.inl (.ref (hr h8 q0 0))], h8, 0, 0)))
        refine k_steps HG 2 (zB_iff.mpr (?_ : G m8 _ (51, [(0, .inl (.ref q0)), (1, .inl (.ref q1)), (2, .inl (.int v8_2))], [.inl (.int (0 : Int32)), .inl (.int v8_2), .inl (.ref (hr h8 q0 0))], h8, 0, 0)))
        refine k_iast HG rfl K8 t14 rfl (fun _ => rfl) rfl (fun h15 K15 => (?_ : G m8 _ (52, [(0, .inl (.ref q0)), (1, .inl (.ref q1)), (2, .inl (.int v8_2))], [], h15, 0, 0)))
        refine k_steps HG 2 (zB_iff.mpr (?_ : G m8 _ (36, [(2, .inl (.int (v8_2 + (1 : Int32)))), (0, .inl (.ref q0)), (1, .inl (.ref q1))], [], h15, 0, 0)))
        refine k_ext HG (L' := [(0, .inl (.ref q0)), (1, .inl (.ref q1)), (2, .inl (.int (v8_2 + (1 : Int32))))]) rfl rfl ⟨rfl, rfl, rfl, trivial⟩ ?_
        exact ih8 _ _ K15
  refine k_ext HG (L' := [(0, .inl (.ref q0)), (1, .inl (.ref q1)), (2, .inl (.int (0 : Int32)))]) rfl rfl ⟨rfl, rfl, rfl, trivial⟩ ?_
  exact lp8 m (Nat.le_refl _) _ _ K7
noncomputable def F_X3_valueNow (h : zH) (q0 : Nat) : Int32 := (letf (F_X3_isSet (hv h q0 4)) (fun y1 => (if y1 = (0 : Int32) then (0 : Int32) else (hv h (hr h q0 0) (hv h q0 4).toNatClampNeg))))
theorem x_X3_valueNow {scr : List zV} {T : List Nat} {h : zH} {q0 : Nat} (hsc : cT scr) (K : hOK kty T h) (hq_q0 : T[q0]? = some 3) (hh : cH h) : xI scr 86 [.inl (.ref q0)] h (F_X3_valueNow h q0) := by
  refine xI_intro (E := ze_X3_valueNow) hsc rfl (cTb_ok rfl) hh (fun d r h' G HG Pf hR m => ?_)
  have K := kOK_refl (W := []) K
  unfold F_X3_valueNow
  show G m _ (0, [(0, .inl (.ref q0))], [], h, 0, 0)
  refine k_steps HG 1 (zB_iff.mpr (?_ : G m _ (1, [(0, .inl (.ref q0))], [.inl (.ref q0)], h, 0, 0)))
  refine k_getI HG rfl K hq_q0 rfl (Nat.le_of_ble_eq_true rfl) rfl (?_ : G m _ (4, [(0, .inl (.ref q0))], [.inl (.int (hv h q0 4))], h, 0, 0))
  refine k_cSI HG (E' := ze_X3_isSet) (Or.inl rfl) hsc rfl rfl rfl rfl (fun hh => x_X3_isSet hsc hh) (fun y1 => (?_ : G m _ (7, [(0, .inl (.ref q0))], [.inl (.int y1)], h, 0, 0)))
  refine k_steps HG 1 (kb_eq (x := y1) (y := (0 : Int32)) ?_ ?_)
  · show G m _ (22, [(0, .inl (.ref q0))], [], h, 0, 0)
    refine k_steps HG 1 (zB_iff.mpr (?_ : G m _ (23, [(0, .inl (.ref q0))], [.inl (.int (0 : Int32))], h, 0, 0)))
    exact k_reti HG rfl rfl (fun e1 e2 => hR _ e1 e2)
  · show G m _ (10, [(0, .inl (.ref q0))], [], h, 0, 0)
    refine k_steps HG 1 (zB_iff.mpr (?_ : G m _ (11, [(0, .inl (.ref q0))], [.inl (.ref q0)], h, 0, 0)))
    refine k_getR HG rfl K hq_q0 rfl (Nat.le_of_ble_eq_true rfl) rfl rfl (fun t2 => (?_ : G m _ (14, [(0, .inl (.ref q0))], [.inl (.ref (hr h q0 0))], h, 0, 0)))
    refine k_steps HG 1 (zB_iff.mpr (?_ : G m _ (15, [(0, .inl (.ref q0))], [.inl (.ref q0), .inl (.ref (hr h q0 0))], h, 0, 0)))
    refine k_getI HG rfl K hq_q0 rfl (Nat.le_of_ble_eq_true rfl) rfl (?_ : G m _ (18, [(0, .inl (.ref q0))], [.inl (.int (hv h q0 4)), .inl (.ref (hr h q0 0))], h, 0, 0))
    refine k_iald HG rfl K t2 rfl (fun _ => rfl) (?_ : G m _ (19, [(0, .inl (.ref q0))], [.inl (.int (hv h (hr h q0 0) (hv h q0 4).toNatClampNeg))], h, 0, 0))
    refine k_steps HG 1 (zB_iff.mpr (?_ : G m _ (23, [(0, .inl (.ref q0))], [.inl (.int (hv h (hr h q0 0) (hv h q0 4).toNatClampNeg))], h, 0, 0)))
    exact k_reti HG rfl rfl (fun e1 e2 => hR _ e1 e2)
