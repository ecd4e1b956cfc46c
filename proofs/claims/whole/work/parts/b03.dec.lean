def W_X5_addBuyer : List (Nat × Nat) := [(5, 23), (37, 1000), (39, 1000)]
noncomputable def B_X5_addBuyer_12 (c0 : Nat) (c1 : Int32) (s : (Int32 × zH)) : (Int32 × zH) ⊕ (zH) := (if s.1 < (8 : Int32) then (letf (hput s.2 (hr s.2 (hr s.2 c0 25) (hv s.2 c0 23).toNatClampNeg) s.1.toNatClampNeg (.inl (.int (0 : Int32)))) (fun h1004 => (Sum.inl ((s.1 + (1 : Int32)), h1004)))) else (letf (hput s.2 c0 23 (.inl (.int ((hv s.2 c0 23) + (1 : Int32))))) (fun h1001 => (Sum.inr h1001))))
noncomputable def F_X5_addBuyer (h : zH) (q0 : Nat) (a1 : Int32) : zH := (letf (hput h (hr h q0 24) (hv h q0 23).toNatClampNeg (.inl (.int a1))) (fun h2 => (fx (B_X5_addBuyer_12 q0 a1) [] ((0 : Int32), h2))))
theorem x_X5_addBuyer {scr : List zV} {T : List Nat} {h : zH} {q0 : Nat} {a1 : Int32} (hsc : cT scr) (K : hOK kty T h) (hq_q0 : T[q0]? = some 5) (hh : cH h) : xH scr W_X5_addBuyer T T 152 [.inl (.ref q0), .inl (.int a1)] h (F_X5_addBuyer h q0 a1) := by
  refine xH_intro (E := ze_X5_addBuyer) hsc rfl (cTb_ok rfl) hh (fun d r h' G HG Pf hR m => ?_)
  have K := kOK_refl (W := W_X5_addBuyer) K
  unfold F_X5_addBuyer
  show G m _ (0, [(0, .inl (.ref q0)), (1, .inl (.int a1))], [], h, 0, 0)
  refine k_steps HG 1 (zB_iff.mpr (?_ : G m _ (1, [(0, .inl (.ref q0)), (1, .inl (.int a1))], [.inl (.ref q0)], h, 0, 0)))
  refine k_getR HG rfl K hq_q0 rfl (Nat.le_of_ble_eq_true rfl) rfl rfl (fun t1 => (?_ : G m _ (4, [(0, .inl (.ref q0)), (1, .inl (.int a1))], [.inl (.ref (hr h q0 24))], h, 0, 0)))
  refine k_steps HG 1 (zB_iff.mpr (?_ : G m _ (5, [(0, .inl (.ref q0)), (1, .inl (.int a1))], [.inl (.ref q0), .inl (.ref (hr h q0 24))], h, 0, 0)))
  refine k_getI HG rfl K hq_q0 rfl (Nat.le_of_ble_eq_true rfl) rfl (?_ : G m _ (8, [(0, .inl (.ref q0)), (1, .inl (.int a1))], [.inl (.int (hv h q0 23)), .inl (.ref (hr h q0 24))], h, 0, 0))
  refine k_steps HG 1 (zB_iff.mpr (?_ : G m _ (9, [(0, .inl (.ref q0)), (1, .inl (.int a1))], [.inl (.int a1), .inl (.int (hv h q0 23)), .inl (.ref (hr h q0 24))], h, 0, 0)))
  refine k_iast HG rfl K t1 rfl (fun _ => rfl) rfl (fun h2 K2 => (?_ : G m _ (10, [(0, .inl (.ref q0)), (1, .inl (.int a1))], [], h2, 0, 0)))
  refine k_steps HG 2 (zB_iff.mpr (?_ : G m _ (12, [(2, .inl (.int (0 : Int32))), (0, .inl (.ref q0)), (1, .inl (.int a1))], [], h2, 0, 0)))
  have lp3 : ∀ m3, m3 ≤ m → ∀ (v3_2 : Int32) (h3 : zH), kOK W_X5_addBuyer T T h h3 → G m3 (Pf (fx (B_X5_addBuyer_12 q0 a1) [] (v3_2, h3))) (12, [(0, .inl (.ref q0)), (1, .inl (.int a1)), (2, .inl (.int v3_2))], [], h3, 0, 0) := by
    intro m3
    induction m3 with
    | zero =>
      intros
      exact k_zero HG
    | succ m3 ih3 =>
      intro le3 v3_2 h3 K3
      have le3 := Nat.le_of_succ_le le3
      have ih3 := ih3 le3
      refine k_fx ?_
      rw [B_X5_addBuyer_12]
      refine k_first HG 2 (kb_ge (x := v3_2) (y := (8 : Int32)) ?_ ?_)
      · show G m3 _ (36, [(0, .inl (.ref q0)), (1, .inl (.int a1)), (2, .inl (.int v3_2))], [], h3, 0, 0)
        refine k_steps HG 2 (zB_iff.mpr (?_ : G m3 _ (38, [(0, .inl (.ref q0)), (1, .inl (.int a1)), (2, .inl (.int v3_2))], [.inl (.ref q0), .inl (.ref q0)], h3, 0, 0)))
        refine k_getI HG rfl K3 hq_q0 rfl (Nat.le_of_ble_eq_true rfl) rfl (?_ : G m3 _ (41, [(0, .inl (.ref q0)), (1, .inl (.int a1)), (2, .inl (.int v3_2))], [.inl (.int (hv h3 q0 23)), .inl (.ref q0)], h3, 0, 0))
        refine k_steps HG 2 (zB_iff.mpr (?_ : G m3 _ (43, [(0, .inl (.ref q0)), (1, .inl (.int a1)), (2, .inl (.int v3_2))], [.inl (.int ((hv h3 q0 23) + (1 : Int32))), .inl (.ref q0)], h3, 0, 0)))
        refine k_putI HG rfl K3 hq_q0 rfl rfl rfl (fun h4 K4 => (?_ : G m3 _ (46, [(0, .inl (.ref q0)), (1, .inl (.int a1)), (2, .inl (.int v3_2))], [], h4, 0, 0)))
        exact k_retv HG rfl rfl (fun e1 e2 => hR _ e1 e2 K4)
      · show G m3 _ (18, [(0, .inl (.ref q0)), (1, .inl (.int a1)), (2, .inl (.int v3_2))], [], h3, 0, 0)
        refine k_steps HG 1 (zB_iff.mpr (?_ : G m3 _ (19, [(0, .inl (.ref q0)), (1, .inl (.int a1)), (2, .inl (.int v3_2))], [.inl (.ref q0)], h3, 0, 0)))
        refine k_getR HG rfl K3 hq_q0 rfl (Nat.le_of_ble_eq_true rfl) rfl rfl (fun t5 => (?_ : G m3 _ (22, [(0, .inl (.ref q0)), (1, .inl (.int a1)), (2, .inl (.int v3_2))], [.inl (.ref (hr h3 q0 25))], h3, 0, 0)))
        refine k_steps HG 1 (zB_iff.mpr (?_ : G m3 _ (23, [(0, .inl (.ref q0)), (1, .inl (.int a1)), (2, .inl (.int v3_2))], [.inl (.ref q0), .inl (.ref (hr h3 q0 25))], h3, 0, 0)))
        refine k_getI HG rfl K3 hq_q0 rfl (Nat.le_of_ble_eq_true rfl) rfl (?_ : G m3 _ (26, [(0, .inl (.ref q0)), (1, .inl (.int a1)), (2, .inl (.int v3_2))], [.inl (.int (hv h3 q0 23)), .inl (.ref (hr h3 q0 25))], h3, 0, 0))
        refine k_aald HG rfl K3 t5 (fun _ => ⟨rfl, rfl⟩) (fun t6 => (?_ : G m3 _ (27, [(0, .inl (.ref q0)), (1, .inl (.int a1)), (2, .inl (.int v3_2))], [.inl (.ref (hr h3 (hr h3 q0 25) (hv h3 q0 23).toNatClampNeg))], h3, 0, 0)))
        refine k_steps HG 2 (zB_iff.mpr (?_ : G m3 _ (29, [(0, .inl (.ref q0)), (1, .inl (.int a1)), (2, .inl (.int v3_2))], [.inl (.int (0 : Int32)), .inl (.int v3_2), .inl (.ref (hr h3 (hr h3 q0 25) (hv h3 q0 23).toNatClampNeg))], h3, 0, 0)))
        refine k_iast HG rfl K3 t6 rfl (fun _ => rfl) rfl (fun h7 K7 => (?_ : G m3 _ (30, [(0, .inl (.ref q0)), (1, .inl (.int a1)), (2, .inl (.int v3_2))], [], h7, 0, 0)))
        refine k_steps HG 2 (zB_iff.mpr (?_ : G m3 _ (12, [(2, .inl (.int (v3_2 + (1 : Int32)))), (0, .inl (.ref q0)), (1, .inl (.int a1))], [], h7, 0, 0)))
        refine k_ext HG (L' := [(0, .inl (.ref q0)), (1, .inl (.int a1)), (2, .inl (.int (v3_2 + (1 : Int32))))]) rfl rfl ⟨rfl, rfl, rfl, trivial⟩ ?_
        exact ih3 _ _ K7
  refine k_ext HG (L' := [(0, .inl (.ref q0)), (1, .inl (.int a1)), (2, .inl (.int (0 : Int32)))]) rfl rfl ⟨rfl, rfl, rfl, trivial⟩ ?_
  exact lp3 m (Nat.le_refl _) _ _ K2
def W_X5_addThing : List (Nat × Nat) := [(5, 17), (32, 1000), (33, 1000), (34, 1000), (35, 1000), (36, 1000), (39, 1000)]
noncomputable def B_X5_addThing_53 (c0 : Nat) (c1 : Int32) (c2 : Int32) (c3 : Int32) (s : (Int32 × zH)) : (Int32 × zH) ⊕ (zH) := (if s.1 < (4 : Int32) then (letf (hput s.2 (hr s.2 (hr s.2 c0 25) s.1.toNatClampNeg) (hv s.2 c0 17).toNatClampNeg (.inl (.int (0 : Int32)))) (fun h1004 => (Sum.inl ((s.1 + (1 : Int32)), h1004)))) else (letf (hput s.2 c0 17 (.inl (.int ((hv s.2 c0 17) + (1 : Int32))))) (fun h1001 => (Sum.inr h1001))))
noncomputable def F_X5_addThing (h : zH) (q0 : Nat) (a1 : Int32) (a2 : Int32) (a3 : Int32) : zH := (letf (hput h (hr h q0 18) (hv h q0 17).toNatClampNeg (.inl (.int a1))) (fun h2 => (letf (hput h2 (hr h2 q0 19) (hv h2 q0 17).toNatClampNeg (.inl (.int a2))) (fun h4 => (letf (hput h4 (hr h4 q0 20) (hv h4 q0 17).toNatClampNeg (.inl (.int a3))) (fun h6 => (letf (hput h6 (hr h6 q0 21) (hv h6 q0 17).toNatClampNeg (.inl (.int (0 : Int32)))) (fun h8 => (letf (hput h8 (hr h8 q0 22) (hv h8 q0 17).toNatClampNeg (.inl (.int (-1 : Int32)))) (fun h10 => (fx (B_X5_addThing_53 q0 a1 a2 a3) [] ((0 : Int32), h10))))))))))))
theorem x_X5_addThing {scr : List zV} {T : List Nat} {h : zH} {q0 : Nat} {a1 : Int32} {a2 : Int32} {a3 : Int32} (hsc : cT scr) (K : hOK kty T h) (hq_q0 : T[q0]? = some 5) (hh : cH h) : xH scr W_X5_addThing T T 153 [.inl (.ref q0), .inl (.int a1), .inl (.int a2), .inl (.int a3)] h (F_X5_addThing h q0 a1 a2 a3) := by
  refine xH_intro (E := ze_X5_addThing) hsc rfl (cTb_ok rfl) hh (fun d r h' G HG Pf hR m => ?_)
  have K := kOK_refl (W := W_X5_addThing) K
  unfold F_X5_addThing
  show G m _ (0, [(0, .inl (.ref q0)), (1, .inl (.int a1)), (2, .inl (.int a2)), (3, .inl (.int a3))], [], h, 0, 0)
  refine k_steps HG 1 (zB_iff.mpr (?_ : G m _ (1, [(0, .inl (.ref q0)), (1, .inl (.int a1)), (2, .inl (.int a2)), (3, .inl (.int a3))], [.inl (.ref q0)], h, 0, 0)))
  refine k_getR HG rfl K hq_q0 rfl (Nat.le_of_ble_eq_true rfl) rfl rfl (fun t1 => (?_ : G m _ (4, [(0, .inl (.ref q0)), (1, .inl (.int a1)), (2, .inl (.int a2)), (3, .inl (.int a3))], [.inl (.ref (hr h q0 18))], h, 0, 0)))
  refine k_steps HG 1 (zB_iff.mpr (?_ : G m _ (5, [(0, .inl (.ref q0)), (1, .inl (.int a1)), (2, .inl (.int a2)), (3, .inl (.int a3))], [.inl (.ref q0), .inl (.ref (hr h q0 18))], h, 0, 0)))
  refine k_getI HG rfl K hq_q0 rfl (Nat.le_of_ble_eq_true rfl) rfl (?_ : G m _ (8, [(0, .inl (.ref q0)), (1, .inl (.int a1)), (2, .inl (.int a2)), (3, .inl (.int a3))], [.inl (.int (hv h q0 17)), .inl (.ref (hr h q0 18))], h, 0, 0))
  refine k_steps HG 1 (zB_iff.mpr (?_ : G m _ (9, [(0, .inl (.ref q0)), (1, .inl (.int a1)), (2, .inl (.int a2)), (3, .inl (.int a3))], [.inl (.int a1), .inl (.int (hv h q0 17)), .inl (.ref (hr h q0 18))], h, 0, 0)))
  refine k_iast HG rfl K t1 rfl (fun _ => rfl) rfl (fun h2 K2 => (?_ : G m _ (10, [(0, .inl (.ref q0)), (1, .inl (.int a1)), (2, .inl (.int a2)), (3, .inl (.int a3))], [], h2, 0, 0)))
  refine k_steps HG 1 (zB_iff.mpr (?_ : G m _ (11, [(0, .inl (.ref q0)), (1, .inl (.int a1)), (2, .inl (.int a2)), (3, .inl (.int a3))], [.inl (.ref q0)], h2, 0, 0)))
  refine k_getR HG rfl K2 hq_q0 rfl (Nat.le_of_ble_eq_true rfl) rfl rfl (fun t3 => (?_ : G m _ (14, [(0, .inl (.ref q0)), (1, .inl (.int a1)), (2, .inl (.int a2)), (3, .inl (.int a3))], [.inl (.ref (hr h2 q0 19))], h2, 0, 0)))
  refine k_steps HG 1 (zB_iff.mpr (?_ : G m _ (15, [(0, .inl (.ref q0)), (1, .inl (.int a1)), (2, .inl (.int a2)), (3, .inl (.int a3))], [.inl (.ref q0), .inl (.ref (hr h2 q0 19))], h2, 0, 0)))
  refine k_getI HG rfl K2 hq_q0 rfl (Nat.le_of_ble_eq_true rfl) rfl (?_ : G m _ (18, [(0, .inl (.ref q0)), (1, .inl (.int a1)), (2, .inl (.int a2)), (3, .inl (.int a3))], [.inl (.int (hv h2 q0 17)), .inl (.ref (hr h2 q0 19))], h2, 0, 0))
  refine k_steps HG 1 (zB_iff.mpr (?_ : G m _ (19, [(0, .inl (.ref q0)), (1, .inl (.int a1)), (2, .inl (.int a2)), (3, .inl (.int a3))], [.inl (.int a2), .inl (.int (hv h2 q0 17)), .inl (.ref (hr h2 q0 19))], h2, 0, 0)))
  refine k_iast HG rfl K2 t3 rfl (fun _ => rfl) rfl (fun h4 K4 => (?_ : G m _ (20, [(0, .inl (.ref q0)), (1, .inl (.int a1)), (2, .inl (.int a2)), (3, .inl (.int a3))], [], h4, 0, 0)))
  refine k_steps HG 1 (zB_iff.mpr (?_ : G m _ (21, [(0, .inl (.ref q0)), (1, .inl (.int a1)), (2, .inl (.int a2)), (3, .inl (.int a3))], [.inl (.ref q0)], h4, 0, 0)))
  refine k_getR HG rfl K4 hq_q0 rfl (Nat.le_of_ble_eq_true rfl) rfl rfl (fun t5 => (?_ : G m _ (24, [(0, .inl (.ref q0)), (1, .inl (.int a1)), (2, .inl (.int a2)), (3, .inl (.int a3))], [.inl (.ref (hr h4 q0 20))], h4, 0, 0)))
  refine k_steps HG 1 (zB_iff.mpr (?_ : G m _ (25, [(0, .inl (.ref q0)), (1, .inl (.int a1)), (2, .inl (.int a2)), (3, .inl (.int a3))], [.inl (.ref q0), .inl (.ref (hr h4 q0 20))], h4, 0, 0)))
  refine k_getI HG rfl K4 hq_q0 rfl (Nat.le_of_ble_eq_true rfl) rfl (?_ : G m _ (28, [(0, .inl (.ref q0)), (1, .inl (.int a1)), (2, .inl (.int a2)), (3, .inl (.int a3))], [.inl (.int (hv h4 q0 17)), .inl (.ref (hr h4 q0 20))], h4, 0, 0))
  refine k_steps HG 1 (zB_iff.mpr (?_ : G m _ (29, [(0, .inl (.ref q0)), (1, .inl (.int a1)), (2, .inl (.int a2)), (3, .inl (.int a3))], [.inl (.int a3), .inl (.int (hv h4 q0 17)), .inl (.ref (hr h4 q0 20))], h4, 0, 0)))
  refine k_iast HG rfl K4 t5 rfl (fun _ => rfl) rfl (fun h6 K6 => (?_ : G m _ (30, [(0, .inl (.ref q0)), (1, .inl (.int a1)), (2, .inl (.int a2)), (3, .inl (.int a3))], [], h6, 0, 0)))
  refine k_steps HG 1 (zB_iff.mpr (?_ : G m _ (31, [(0, .inl (.ref q0)), (1, .inl (.int a1)), (2, .inl (.int a2)), (3, .inl (.int a3))], [.inl (.ref q0)], h6, 0, 0)))
  refine k_getR HG rfl K6 hq_q0 rfl (Nat.le_of_ble_eq_true rfl) rfl rfl (fun t7 => (?_ : G m _ (34, [(0, .inl (.ref q0)), (1, .inl (.int a1)), (2, .inl (.int a2)), (3, .inl (.int a3))], [.inl (.ref (hr h6 q0 21))], h6, 0, 0)))
  refine k_steps HG 1 (zB_iff.mpr (?_ : G m _ (35, [(0, .inl (.ref q0)), (1, .inl (.int a1)), (2, .inl (.int a2)), (3, .inl (.int a3))], [.inl (.ref q0), .inl (.ref (hr h6 q0 21))], h6, 0, 0)))
  refine k_getI HG rfl K6 hq_q0 rfl (Nat.le_of_ble_eq_true rfl) rfl (?_ : G m _ (38, [(0, .inl (.ref q0)), (1, .inl (.int a1)), (2, .inl (.int a2)), (3, .inl (.int a3))], [.inl (.int (hv h6 q0 17)), .inl (.ref (hr h6 q0 21))], h6, 0, 0))
  refine k_steps HG 1 (zB_iff.mpr (?_ : G m _ (39, [(0, .inl (.ref q0)), (1, .inl (.int a1)), (2, .inl (.int a2)), (3, .inl (.int a3))], [.inl (.int (0 : Int32)), .inl (.int (hv h6 q0 17)), .inl (.ref (hr h6 q0 21))], h6, 0, 0)))
  refine k_iast HG rfl K6 t7 rfl (fun _ => rfl) rfl (fun h8 K8 => (?_ : G m _ (40, [(0, .inl (.ref q0)), (1, .inl (.int a1)), (2, .inl (.int a2)), (3, .inl (.int a3))], [], h8, 0, 0)))
  refine k_steps HG 1 (zB_iff.mpr (?_ : G m _ (41, [(0, .inl (.ref q0)), (1, .inl (.int a1)), (2, .inl (.int a2)), (3, .inl (.int a3))], [.inl (.ref q0)], h8, 0, 0)))
  refine k_getR HG rfl K8 hq_q0 rfl (Nat.le_of_ble_eq_true rfl) rfl rfl (fun t9 => (?_ : G m _ (44, [(0, .inl (.ref q0)), (1, .inl (.int a1)), (2, .inl (.int a2)), (3, .inl (.int a3))], [.inl (.ref (hr h8 q0 22))], h8, 0, 0)))
  refine k_steps HG 1 (zB_iff.mpr (?_ : G m _ (45, [(0, .inl (.ref q0)), (1, .inl (.int a1)), (2, .inl (.int a2)), (3, .inl (.int a3))], [.inl (.ref q0), .inl (.ref (hr h8 q0 22))], h8, 0, 0)))
  refine k_getI HG rfl K8 hq_q0 rfl (Nat.le_of_ble_eq_true rfl) rfl (?_ : G m _ (48, [(0, .inl (.ref q0)), (1, .inl (.int a1)), (2, .inl (.int a2)), (3, .inl (.int a3))], [.inl (.int (hv h8 q0 17)), .inl (.ref (hr h8 q0 22))], h8, 0, 0))
  refine k_steps HG 1 (zB_iff.mpr (?_ : G m _ (49, [(0, .inl (.ref q0)), (1, .inl (.int a1)), (2, .inl (.int a2)), (3, .inl (.int a3))], [.inl (.int (-1 : Int32)), .inl (.int (hv h8 q0 17)), .inl (.ref (hr h8 q0 22))], h8, 0, 0)))
  refine k_iast HG rfl K8 t9 rfl (fun _ => rfl) rfl (fun h10 K10 => (?_ : G m _ (50, [(0, .inl (.ref q0)), (1, .inl (.int a1)), (2, .inl (.int a2)), (3, .inl (.int a3))], [], h10, 0, 0)))
  refine k_steps HG 2 (zB_iff.mpr (?_ : G m _ (53, [(4, .inl (.int (0 : Int32))), (0, .inl (.ref q0)), (1, .inl (.int a1)), (2, .inl (.int a2)), (3, .inl (.int a3))], [], h10, 0, 0)))
  have lp11 : ∀ m11, m11 ≤ m → ∀ (v11_4 : Int32) (h11 : zH), kOK W_X5_addThing T T h h11 → G m11 (Pf (fx (B_X5_addThing_53 q0 a1 a2 a3) [] (v11_4, h11))) (53, [(0, .inl (.ref q0)), (1, .inl (.int a1)), (2, .inl (.int a2)), (3, .inl (.int a3)), (4, .inl (.int v11_4))], [], h11, 0, 0) := by
    intro m11
    induction m11 with
    | zero =>
      intros
      exact k_zero HG
    | succ m11 ih11 =>
      intro le11 v11_4 h11 K11
      have le11 := Nat.le_of_succ_le le11
      have ih11 := ih11 le11
      refine k_fx ?_
      rw [B_X5_addThing_53]
      refine k_first HG 2 (kb_ge (x := v11_4) (y := (4 : Int32)) ?_ ?_)
      · show G m11 _ (78, [(0, .inl (.ref q0)), (1, .inl (.int a1)), (2, .inl (.int a2)), (3, .inl (.int a3)), (4, .inl (.int v11_4))], [], h11, 0, 0)
        refine k_steps HG 2 (zB_iff.mpr (?_ : G m11 _ (80, [(0, .inl (.ref q0)), (1, .inl (.int a1)), (2, .inl (.int a2)), (3, .inl (.int a3)), (4, .inl (.int v11_4))], [.inl (.ref q0), .inl (.ref q0)], h11, 0, 0)))
        refine k_getI HG rfl K11 hq_q0 rfl (Nat.le_of_ble_eq_true rfl) rfl (?_ : G m11 _ (83, [(0, .inl (.ref q0)), (1, .inl (.int a1)), (2, .inl (.int a2)), (3, .inl (.int a3)), (4, .inl (.int v11_4))], [.inl (.int (hv h11 q0 17)), .inl (.ref q0)], h11, 0, 0))
        refine k_steps HG 2 (zB_iff.mpr (?_ : G m11 _ (85, [(0, .inl (.ref q0)), (1, .inl (.int a1)), (2, .inl (.int a2)), (3, .inl (.int a3)), (4, .inl (.int v11_4))], [.inl (.int ((hv h11 q0 17) + (1 : Int32))), .inl (.ref q0)], h11, 0, 0)))
        refine k_putI HG rfl K11 hq_q0 rfl rfl rfl (fun h12 K12 => (?_ : G m11 _ (88, [(0, .inl (.ref q0)), (1, .inl (.int a1)), (2, .inl (.int a2)), (3, .inl (.int a3)), (4, .inl (.int v11_4))], [], h12, 0, 0)))
        exact k_retv HG rfl rfl (fun e1 e2 => hR _ e1 e2 K12)
      · show G m11 _ (59, [(0, .inl (.ref q0)), (1, .inl (.int a1)), (2, .inl (.int a2)), (3, .inl (.int a3)), (4, .inl (.int v11_4))], [], h11, 0, 0)
        refine k_steps HG 1 (zB_iff.mpr (?_ : G m11 _ (60, [(0, .inl (.ref q0)), (1, .inl (.int a1)), (2, .inl (.int a2)), (3, .inl (.int a3)), (4, .inl (.int v11_4))], [.inl (.ref q0)], h11, 0, 0)))
        refine k_getR HG rfl K11 hq_q0 rfl (Nat.le_of_ble_eq_true rfl) rfl rfl (fun t13 => (?_ : G m11 _ (63, [(0, .inl (.ref q0)), (1, .inl (.int a1)), (2, .inl (.int a2)), (3, .inl (.int a3)), (4, .inl (.int v11_4))], [.inl (.ref (hr h11 q0 25))], h11, 0, 0)))
        refine k_steps HG 1 (zB_iff.mpr (?_ : G m11 _ (65, [(0, .inl (.ref q0)), (1, .inl (.int a1)), (2, .inl (.int a2)), (3, .inl (.int a3)), (4, .inl (.int v11_4))], [.inl (.int v11_4), .inl (.ref (hr h11 q0 25))], h11, 0, 0)))
        refine k_aald HG rfl K11 t13 (fun _ => ⟨rfl, rfl⟩) (fun t14 => (?_ : G m11 _ (66, [(0, .inl (.ref q0)), (1, .inl (.int a1)), (2, .inl (.int a2)), (3, .inl (.int a3)), (4, .inl (.int v11_4))], [.inl (.ref (hr h11 (hr h11 q0 25) v11_4.toNatClampNeg))], h11, 0, 0)))
        refine k_steps HG 1 (zB_iff.mpr (?_ : G m11 _ (67, [(0, .inl (.ref q0)), (1, .inl (.int a1)), (2, .inl (.int a2)), (3, .inl (.int a3)), (4, .inl (.int v11_4))], [.inl (.ref q0), .inl (.ref (hr h11 (hr h11 q0 25) v11_4.toNatClampNeg))], h11, 0, 0)))
        refine k_getI HG rfl K11 hq_q0 rfl (Nat.le_of_ble_eq_true rfl) rfl (?_ : G m11 _ (70, [(0, .inl (.ref q0)), (1, .inl (.int a1)), (2, .inl (.int a2)), (3, .inl (.int a3)), (4, .inl (.int v11_4))], [.inl (.int (hv h11 q0 17)), .inl (.ref (hr h11 (hr h11 q0 25) v11_4.toNatClampNeg))], h11, 0, 0))
        refine k_steps HG 1 (zB_iff.mpr (?_ : G m11 _ (71, [(0, .inl (.ref q0)), (1, .inl (.int a1)), (2, .inl (.int a2)), (3, .inl (.int a3)), (4, .inl (.int v11_4))], [.inl (.int (0 : Int32)), .inl (.int (hv h11 q0 17)), .inl (.ref (hr h11 (hr h11 q0 25) v11_4.toNatClampNeg))], h11, 0, 0)))
        refine k_iast HG rfl K11 t14 rfl (fun _ => rfl) rfl (fun h15 K15 => (?_ : G m11 _ (72, [(0, .inl (.ref q0)), (1, .inl (.int a1)), (2, .inl (.int a2)), (3, .inl (.int a3)), (4, .inl (.int v11_4))], [], h15, 0, 0)))
        refine k_steps HG 2 (zB_iff.mpr (?_ : G m11 _ (53, [(4, .inl (.int (v11_4 + (1 : Int32)))), (0, .inl (.ref q0)), (1, .inl (.int a1)), (2, .inl (.int a2)), (3, .inl (.int a3))], [], h15, 0, 0)))
        refine k_ext HG (L' := [(0, .inl (.ref q0)), (1, .inl (.int a1)), (2, .inl (.int a2)), (3, .inl (.int a3)), (4, .inl (.int (v11_4 + (1 : Int32))))]) rfl rfl ⟨rfl, rfl, rfl, rfl, rfl, trivial⟩ ?_
        exact ih11 _ _ K15
  refine k_ext HG (L' := [(0, .inl (.ref q0)), (1, .inl (.int a1)), (2, .inl (.int a2)), (3, .inl (.int a3)), (4, .inl (.int (0 : Int32)))]) rfl rfl ⟨rfl, rfl, rfl, rfl, rfl, trivial⟩ ?_
  exact lp11 m (Nat.le_refl _) _ _ K10
def W_X5_becomeSlips : List (Nat × Nat) := [(5, 9), (31, 1000)]
noncomputable def B_X5_becomeSlips_7 (c0 : Nat) (c1 : Int32) (s : (Int32 × zH)) : (Int32 × zH) ⊕ (zH) := (if (60 : Int32) < s.1 then (Sum.inr s.2) else (letf (hput s.2 (hr s.2 c0 16) s.1.toNatClampNeg (.inl (.int (0 : Int32)))) (fun h1002 => (Sum.inl ((s.1 + (1 : Int32)), h1002)))))
noncomputable def F_X5_becomeSlips (h : zH) (q0 : Nat) (a1 : Int32) : zH := (letf (hput h q0 9 (.inl (.int a1))) (fun h1 => (fx (B_X5_becomeSlips_7 q0 a1) [] ((0 : Int32), h1))))
theorem x_X5_becomeSlips {scr : List zV} {T : List Nat} {h : zH} {q0 : Nat} {a1 : Int32} (hsc : cT scr) (K : hOK kty T h) (hq_q0 : T[q0]? = some 5) (hh : cH h) : xH scr W_X5_becomeSlips T T 157 [.inl (.ref q0), .inl (.int a1)] h (F_X5_becomeSlips h q0 a1) := by
  refine xH_intro (E := ze_X5_becomeSlips) hsc rfl (cTb_ok rfl) hh (fun d r h' G HG Pf hR m => ?_)
  have K := kOK_refl (W := W_X5_becomeSlips) K
  unfold F_X5_becomeSlips
  show G m _ (0, [(0, .inl (.ref q0)), (1, .inl (.int a1))], [], h, 0, 0)
  refine k_steps HG 2 (zB_iff.mpr (?_ : G m _ (2, [(0, .inl (.ref q0)), (1, .inl (.int a1))], [.inl (.int a1), .inl (.ref q0)], h, 0, 0)))
  refine k_putI HG rfl K hq_q0 rfl rfl rfl (fun h1 K1 => (?_ : G m _ (5, [(0, .inl (.ref q0)), (1, .inl (.int a1))], [], h1, 0, 0)))
  refine k_steps HG 2 (zB_iff.mpr (?_ : G m _ (7, [(2, .inl (.int (0 : Int32))), (0, .inl (.ref q0)), (1, .inl (.int a1))], [], h1, 0, 0)))
  have lp2 : ∀ m2, m2 ≤ m → ∀ (v2_2 : Int32) (h2 : zH), kOK W_X5_becomeSlips T T h h2 → G m2 (Pf (fx (B_X5_becomeSlips_7 q0 a1) [] (v2_2, h2))) (7, [(0, .inl (.ref q0)), (1, .inl (.int a1)), (2, .inl (.int v2_2))], [], h2, 0, 0) := by
    intro m2
    induction m2 with
    | zero =>
      intros
      exact k_zero HG
    | succ m2 ih2 =>
      intro le2 v2_2 h2 K2
      have le2 := Nat.le_of_succ_le le2
      have ih2 := ih2 le2
      refine k_fx ?_
      rw [B_X5_becomeSlips_7]
      refine k_first HG 2 (kb_gt (x := v2_2) (y := (60 : Int32)) ?_ ?_)
      · show G m2 _ (26, [(0, .inl (.ref q0)), (1, .inl (.int a1)), (2, .inl (.int v2_2))], [], h2, 0, 0)
        exact k_retv HG rfl rfl (fun e1 e2 => hR _ e1 e2 K2)
      · show G m2 _ (13, [(0, .inl (.ref q0)), (1, .inl (.int a1)), (2, .inl (.int v2_2))], [], h2, 0, 0)
        refine k_steps HG 1 (zB_iff.mpr (?_ : G m2 _ (14, [(0, .inl (.ref q0)), (1, .inl (.int a1)), (2, .inl (.int v2_2))], [.inl (.ref q0)], h2, 0, 0)))
        refine k_getR HG rfl K2 hq_q0 rfl (Nat.le_of_ble_eq_true rfl) rfl rfl (fun t3 => (?_ : G m2 _ (17, [(0, .inl (.ref q0)), (1, .inl (.int a1)), (2, .inl (.int v2_2))], [.inl (.ref (hr h2 q0 16))], h2, 0, 0)))
        refine k_steps HG 2 (zB_iff.mpr (?_ : G m2 _ (19, [(0, .inl (.ref q0)), (1, .inl (.int a1)), (2, .inl (.int v2_2))], [.inl (.int (0 : Int32)), .inl (.int v2_2), .inl (.ref (hr h2 q0 16))], h2, 0, 0)))
        refine k_iast HG rfl K2 t3 rfl (fun _ => rfl) rfl (fun h4 K4 => (?_ : G m2 _ (20, [(0, .inl (.ref q0)), (1, .inl (.int a1)), (2, .inl (.int v2_2))], [], h4, 0, 0)))
        refine k_steps HG 2 (zB_iff.mpr (?_ : G m2 _ (7, [(2, .inl (.int (v2_2 + (1 : Int32)))), (0, .inl (.ref q0)), (1, .inl (.int a1))], [], h4, 0, 0)))
        refine k_ext HG (L' := [(0, .inl (.ref q0)), (1, .inl (.int a1)), (2, .inl (.int (v2_2 + (1 : Int32))))]) rfl rfl ⟨rfl, rfl, rfl, trivial⟩ ?_
        exact ih2 _ _ K4
  refine k_ext HG (L' := [(0, .inl (.ref q0)), (1, .inl (.int a1)), (2, .inl (.int (0 : Int32)))]) rfl rfl ⟨rfl, rfl, rfl, trivial⟩ ?_
  exact lp2 m (Nat.le_refl _) _ _ K1
def W_X5_below : List (Nat × Nat) := [(5, 15)]
noncomputable def F_X5_below (h : zH) (q0 : Nat) (a1 : Int32) : Int32 × zH := (letf (hput h q0 15 (.inl (.int (((hv h q0 15) * (1103515245 : Int32)) + (12345 : Int32))))) (fun h1 => ((jrem (((hv h1 q0 15).toUInt32 >>> ((16 : Int32).toUInt32 &&& Int32.toUInt32 31)).toInt32) a1), h1)))
theorem x_X5_below {scr : List zV} {T : List Nat} {h : zH} {q0 : Nat} {a1 : Int32} (hsc : cT scr) (K : hOK kty T h) (hq_q0 : T[q0]? = some 5) (hh : cH h) : xIH scr W_X5_below T T 159 [.inl (.ref q0), .inl (.int a1)] h (F_X5_below h q0 a1) := by
  refine xIH_intro (E := ze_X5_below) hsc rfl (cTb_ok rfl) hh (fun d r h' G HG Pf hR m => ?_)
  have K := kOK_refl (W := W_X5_below) K
  unfold F_X5_below
  show G m _ (0, [(0, .inl (.ref q0)), (1, .inl (.int a1))], [], h, 0, 0)
  refine k_steps HG 2 (zB_iff.mpr (?_ : G m _ (2, [(0, .inl (.ref q0)), (1, .inl (.int a1))], [.inl (.ref q0), .inl (.ref q0)], h, 0, 0)))
  refine k_getI HG rfl K hq_q0 rfl (Nat.le_of_ble_eq_true rfl) rfl (?_ : G m _ (5, [(0, .inl (.ref q0)), (1, .inl (.int a1))], [.inl (.int (hv h q0 15)), .inl (.ref q0)], h, 0, 0))
  refine k_steps HG 4 (zB_iff.mpr (?_ : G m _ (13, [(0, .inl (.ref q0)), (1, .inl (.int a1))], [.inl (.int (((hv h q0 15) * (1103515245 : Int32)) + (12345 : Int32))), .inl (.ref q0)], h, 0, 0)))
  refine k_putI HG rfl K hq_q0 rfl rfl rfl (fun h1 K1 => (?_ : G m _ (16, [(0, .inl (.ref q0)), (1, .inl (.int a1))], [], h1, 0, 0)))
  refine k_steps HG 1 (zB_iff.mpr (?_ : G m _ (17, [(0, .inl (.ref q0)), (1, .inl (.int a1))], [.inl (.ref q0)], h1, 0, 0)))
  refine k_getI HG rfl K1 hq_q0 rfl (Nat.le_of_ble_eq_true rfl) rfl (?_ : G m _ (20, [(0, .inl (.ref q0)), (1, .inl (.int a1))], [.inl (.int (hv h1 q0 15))], h1, 0, 0))
  refine k_steps HG 3 (zB_iff.mpr (?_ : G m _ (24, [(0, .inl (.ref q0)), (1, .inl (.int a1))], [.inl (.int a1), .inl (.int ((hv h1 q0 15).toUInt32 >>> ((16 : Int32).toUInt32 &&& Int32.toUInt32 31)).toInt32)], h1, 0, 0)))
  refine k_rem HG rfl (?_ : G m _ (25, [(0, .inl (.ref q0)), (1, .inl (.int a1))], [.inl (.int (jrem (((hv h1 q0 15).toUInt32 >>> ((16 : Int32).toUInt32 &&& Int32.toUInt32 31)).toInt32) a1))], h1, 0, 0))
  exact k_reti HG rfl rfl (fun e1 e2 => hR _ _ e1 e2 K1)
noncomputable def B_X5_bits_4 (c0 : Int32) (s : (Int32 × Int32)) : (Int32 × Int32) ⊕ (Int32) := (if s.2 < (8 : Int32) then (Sum.inl ((s.1 + ((c0 >>> (s.2 &&& 31)) &&& (1 : Int32))), (s.2 + (1 : Int32)))) else (Sum.inr s.1))
noncomputable def F_X5_bits (a0 : Int32) : Int32 := (fx (B_X5_bits_4 a0) 0 ((0 : Int32), (0 : Int32)))
theorem x_X5_bits {scr : List zV} {h : zH} {a0 : Int32} (hsc : cT scr) (hh : cH h) : xI scr 161 [.inl (.int a0)] h (F_X5_bits a0) := by
  refine xI_intro (E := ze_X5_bits) hsc rfl (cTb_ok rfl) hh (fun d r h' G HG Pf hR m => ?_)
  unfold F_X5_bits
  show G m _ (0, [(0, .inl (.int a0))], [], h, 0, 0)
  refine k_steps HG 4 (zB_iff.mpr (?_ : G m _ (4, [(2, .inl (.int (0 : Int32))), (1, .inl (.int (0 : Int32))), (0, .inl (.int a0))], [], h, 0, 0)))
  have lp1 : ∀ m1, m1 ≤ m → ∀ (v1_1 : Int32) (v1_2 : Int32), G m1 (Pf (fx (B_X5_bits_4 a0) 0 (v1_1, v1_2))) (4, [(0, .inl (.int a0)), (1, .inl (.int v1_1)), (2, .inl (.int v1_2))], [], h, 0, 0) := by
    intro m1
    induction m1 with
    | zero =>
      intros
      exact k_zero HG
    | succ m1 ih1 =>
      intro le1 v1_1 v1_2
      have le1 := Nat.le_of_succ_le le1
      have ih1 := ih1 le1
      refine k_fx ?_
      rw [B_X5_bits_4]
      refine k_first HG 2 (kb_ge (x := v1_2) (y := (8 : Int32)) ?_ ?_)
      · show G m1 _ (24, [(0, .inl (.int a0)), (1, .inl (.int v1_1)), (2, .inl (.int v1_2))], [], h, 0, 0)
        refine k_steps HG 1 (zB_iff.mpr (?_ : G m1 _ (25, [(0, .inl (.int a0)), (1, .inl (.int v1_1)), (2, .inl (.int v1_2))], [.inl (.int v1_1)], h, 0, 0)))
        exact k_reti HG rfl rfl (fun e1 e2 => hR _ e1 e2)
      · show G m1 _ (10, [(0, .inl (.int a0)), (1, .inl (.int v1_1)), (2, .inl (.int v1_2))], [], h, 0, 0)
        refine k_steps HG 10 (zB_iff.mpr (?_ : G m1 _ (4, [(2, .inl (.int (v1_2 + (1 : Int32)))), (1, .inl (.int (v1_1 + ((a0 >>> (v1_2 &&& 31)) &&& (1 : Int32))))), (0, .inl (.int a0))], [], h, 0, 0)))
        refine k_ext HG (L' := [(0, .inl (.int a0)), (1, .inl (.int (v1_1 + ((a0 >>> (v1_2 &&& 31)) &&& (1 : Int32))))), (2, .inl (.int (v1_2 + (1 : Int32))))]) rfl rfl ⟨rfl, rfl, rfl, trivial⟩ ?_
        exact ih1 _ _
  refine k_ext HG (L' := [(0, .inl (.int a0)), (1, .inl (.int (0 : Int32))), (2, .inl (.int (0 : Int32)))]) rfl rfl ⟨rfl, rfl, rfl, trivial⟩ ?_
  exact lp1 m (Nat.le_refl _) _ _
noncomputable def B_X5_brought_2 (h : zH) (c0 : Nat) (c1 : Int32) (c2 : Int32) (s : (Int32)) : (Int32) ⊕ (Int32) := (if s < (hv h c0 17) then (if s = c1 then (Sum.inl (s + (1 : Int32))) else (if ((c2 >>> (s &&& 31)) &&& (1 : Int32)) = (0 : Int32) then (Sum.inl (s + (1 : Int32))) else (if (hv h (hr h c0 18) s.toNatClampNeg) = (1 : Int32) then (Sum.inl (s + (1 : Int32))) else (if (hv h (hr h c0 18) s.toNatClampNeg) = (3 : Int32) then (Sum.inl (s + (1 : Int32))) else (Sum.inr s))))) else (Sum.inr (-1 : Int32)))
noncomputable def F_X5_brought (h : zH) (q0 : Nat) (a1 : Int32) (a2 : Int32) : Int32 := (fx (B_X5_brought_2 h q0 a1 a2) 0 (0 : Int32))
theorem x_X5_brought {scr : List zV} {T : List Nat} {h : zH} {q0 : Nat} {a1 : Int32} {a2 : Int32} (hsc : cT scr) (K : hOK kty T h) (hq_q0 : T[q0]? = some 5) (hh : cH h) : xI scr 163 [.inl (.ref q0), .inl (.int a1), .inl (.int a2)] h (F_X5_brought h q0 a1 a2) := by
  refine xI_intro (E := ze_X5_brought) hsc rfl (cTb_ok rfl) hh (fun d r h' G HG Pf hR m => ?_)
  have K := kOK_refl (W := []) K
  unfold F_X5_brought
  show G m _ (0, [(0, .inl (.ref q0)), (1, .inl (.int a1)), (2, .inl (.int a2))], [], h, 0, 0)
  refine k_steps HG 2 (zB_iff.mpr (?_ : G m _ (2, [(3, .inl (.int (0 : Int32))), (0, .inl (.ref q0)), (1, .inl (.int a1)), (2, .inl (.int a2))], [], h, 0, 0)))
  have lp1 : ∀ m1, m1 ≤ m → ∀ (v1_3 : Int32), G m1 (Pf (fx (B_X5_brought_2 h q0 a1 a2) 0 v1_3)) (2, [(0, .inl (.ref q0)), (1, .inl (.int a1)), (2, .inl (.int a2)), (3, .inl (.int v1_3))], [], h, 0, 0) := by
    intro m1
    induction m1 with
    | zero =>
      intros
      exact k_zero HG
    | succ m1 ih1 =>
      intro le1 v1_3
      have le1 := Nat.le_of_succ_le le1
      have ih1 := ih1 le1
      refine k_fx ?_
      rw [B_X5_brought_2]
      refine k_first HG 1 (zB_iff.mpr (?_ : G m1 _ (4, [(0, .inl (.ref q0)), (1, .inl (.int a1)), (2, .inl (.int a2)), (3, .inl (.int v1_3))], [.inl (.ref q0), .inl (.int v1_3)], h, 0, 0)))
      refine k_getI HG rfl K hq_q0 rfl (Nat.le_of_ble_eq_true rfl) rfl (?_ : G m1 _ (7, [(0, .inl (.ref q0)), (1, .inl (.int a1)), (2, .inl (.int a2)), (3, .inl (.int v1_3))], [.inl (.int (hv h q0 17)), .inl (.int v1_3)], h, 0, 0))
      refine k_steps HG 1 (kb_ge (x := v1_3) (y := (hv h q0 17)) ?_ ?_)
      · show G m1 _ (51, [(0, .inl (.ref q0)), (1, .inl (.int a1)), (2, .inl (.int a2)), (3, .inl (.int v1_3))], [], h, 0, 0)
        refine k_steps HG 1 (zB_iff.mpr (?_ : G m1 _ (52, [(0, .inl (.ref q0)), (1, .inl (.int a1)), (2, .inl (.int a2)), (3, .inl (.int v1_3))], [.inl (.int (-1 : Int32))], h, 0, 0)))
        exact k_reti HG rfl rfl (fun e1 e2 => hR _ e1 e2)
      · show G m1 _ (10, [(0, .inl (.ref q0)), (1, .inl (.int a1)), (2, .inl (.int a2)), (3, .inl (.int v1_3))], [], h, 0, 0)
        refine k_steps HG 3 (kb_eq (x := v1_3) (y := a1) ?_ ?_)
        · show G m1 _ (45, [(0, .inl (.ref q0)), (1, .inl (.int a1)), (2, .inl (.int a2)), (3, .inl (.int v1_3))], [], h, 0, 0)
          refine k_steps HG 2 (zB_iff.mpr (?_ : G m1 _ (2, [(3, .inl (.int (v1_3 + (1 : Int32)))), (0, .inl (.ref q0)), (1, .inl (.int a1)), (2, .inl (.int a2))], [], h, 0, 0)))
          refine k_ext HG (L' := [(0, .inl (.ref q0)), (1, .inl (.int a1)), (2, .inl (.int a2)), (3, .inl (.int (v1_3 + (1 : Int32))))]) rfl rfl ⟨rfl, rfl, rfl, rfl, trivial⟩ ?_
          exact ih1 _
        · show G m1 _ (15, [(0, .inl (.ref q0)), (1, .inl (.int a1)), (2, .inl (.int a2)), (3, .inl (.int v1_3))], [], h, 0, 0)
          refine k_steps HG 6 (kb_eq (x := ((a2 >>> (v1_3 &&& 31)) &&& (1 : Int32))) (y := (0 : Int32)) ?_ ?_)
          · show G m1 _ (45, [(0, .inl (.ref q0)), (1, .inl (.int a1)), (2, .inl (.int a2)), (3, .inl (.int v1_3))], [], h, 0, 0)
            refine k_steps HG 2 (zB_iff.mpr (?_ : G m1 _ (2, [(3, .inl (.int (v1_3 + (1 : Int32)))), (0, .inl (.ref q0)), (1, .inl (.int a1)), (2, .inl (.int a2))], [], h, 0, 0)))
            refine k_ext HG (L' := [(0, .inl (.ref q0)), (1, .inl (.int a1)), (2, .inl (.int a2)), (3, .inl (.int (v1_3 + (1 : Int32))))]) rfl rfl ⟨rfl, rfl, rfl, rfl, trivial⟩ ?_
            exact ih1 _
          · show G m1 _ (23, [(0, .inl (.ref q0)), (1, .inl (.int a1)), (2, .inl (.int a2)), (3, .inl (.int v1_3))], [], h, 0, 0)
            refine k_steps HG 1 (zB_iff.mpr (?_ : G m1 _ (24, [(0, .inl (.ref q0)), (1, .inl (.int a1)), (2, .inl (.int a2)), (3, .inl (.int v1_3))], [.inl (.ref q0)], h, 0, 0)))
            refine k_getR HG rfl K hq_q0 rfl (Nat.le_of_ble_eq_true rfl) rfl rfl (fun t2 => (?_ : G m1 _ (27, [(0, .inl (.ref q0)), (1, .inl (.int a1)), (2, .inl (.int a2)), (3, .inl (.int v1_3))], [.inl (.ref (hr h q0 18))], h, 0, 0)))
            refine k_steps HG 1 (zB_iff.mpr (?_ : G m1 _ (28, [(0, .inl (.ref q0)), (1, .inl (.int a1)), (2, .inl (.int a2)), (3, .inl (.int v1_3))], [.inl (.int v1_3), .inl (.ref (hr h q0 18))], h, 0, 0)))
            refine k_iald HG rfl K t2 rfl (fun _ => rfl) (?_ : G m1 _ (29, [(0, .inl (.ref q0)), (1, .inl (.int a1)), (2, .inl (.int a2)), (3, .inl (.int v1_3))], [.inl (.int (hv h (hr h q0 18) v1_3.toNatClampNeg))], h, 0, 0))
            refine k_steps HG 2 (kb_eq (x := (hv h (hr h q0 18) v1_3.toNatClampNeg)) (y := (1 : Int32)) ?_ ?_)
            · show G m1 _ (45, [(0, .inl (.ref q0)), (1, .inl (.int a1)), (2, .inl (.int a2)), (3, .inl (.int v1_3))], [], h, 0, 0)
              refine k_steps HG 2 (zB_iff.mpr (?_ : G m1 _ (2, [(3, .inl (.int (v1_3 + (1 : Int32)))), (0, .inl (.ref q0)), (1, .inl (.int a1)), (2, .inl (.int a2))], [], h, 0, 0)))
              refine k_ext HG (L' := [(0, .inl (.ref q0)), (1, .inl (.int a1)), (2, .inl (.int a2)), (3, .inl (.int (v1_3 + (1 : Int32))))]) rfl rfl ⟨rfl, rfl, rfl, rfl, trivial⟩ ?_
              exact ih1 _
            · show G m1 _ (33, [(0, .inl (.ref q0)), (1, .inl (.int a1)), (2, .inl (.int a2)), (3, .inl (.int v1_3))], [], h, 0, 0)
              refine k_steps HG 1 (zB_iff.mpr (?_ : G m1 _ (34, [(0, .inl (.ref q0)), (1, .inl (.int a1)), (2, .inl (.int a2)), (3, .inl (.int v1_3))], [.inl (.ref q0)], h, 0, 0)))
              refine k_getR HG rfl K hq_q0 rfl (Nat.le_of_ble_eq_true rfl) rfl rfl (fun t3 => (?_ : G m1 _ (37, [(0, .inl (.ref q0)), (1, .inl (.int a1)), (2, .inl (.int a2)), (3, .inl (.int v1_3))], [.inl (.ref (hr h q0 18))], h, 0, 0)))
              refine k_steps HG 1 (zB_iff.mpr (?_ : G m1 _ (38, [(0, .inl (.ref q0)), (1, .inl (.int a1)), (2, .inl (.int a2)), (3, .inl (.int v1_3))], [.inl (.int v1_3), .inl (.ref (hr h q0 18))], h, 0, 0)))
              refine k_iald HG rfl K t3 rfl (fun _ => rfl) (?_ : G m1 _ (39, [(0, .inl (.ref q0)), (1, .inl (.int a1)), (2, .inl (.int a2)), (3, .inl (.int v1_3))], [.inl (.int (hv h (hr h q0 18) v1_3.toNatClampNeg))], h, 0, 0))
              refine k_steps HG 2 (kb_eq (x := (hv h (hr h q0 18) v1_3.toNatClampNeg)) (y := (3 : Int32)) ?_ ?_)
              · show G m1 _ (45, [(0, .inl (.ref q0)), (1, .inl (.int a1)), (2, .inl (.int a2)), (3, .inl (.int v1_3))], [], h, 0, 0)
                refine k_steps HG 2 (zB_iff.mpr (?_ : G m1 _ (2, [(3, .inl (.int (v1_3 + (1 : Int32)))), (0, .inl (.ref q0)), (1, .inl (.int a1)), (2, .inl (.int a2))], [], h, 0, 0)))
                refine k_ext HG (L' := [(0, .inl (.ref q0)), (1, .inl (.int a1)), (2, .inl (.int a2)), (3, .inl (.int (v1_3 + (1 : Int32))))]) rfl rfl ⟨rfl, rfl, rfl, rfl, trivial⟩ ?_
                exact ih1 _
              · show G m1 _ (43, [(0, .inl (.ref q0)), (1, .inl (.int a1)), (2, .inl (.int a2)), (3, .inl (.int v1_3))], [], h, 0, 0)
                refine k_steps HG 1 (zB_iff.mpr (?_ : G m1 _ (44, [(0, .inl (.ref q0)), (1, .inl (.int a1)), (2, .inl (.int a2)), (3, .inl (.int v1_3))], [.inl (.int v1_3)], h, 0, 0)))
                exact k_reti HG rfl rfl (fun e1 e2 => hR _ e1 e2)
  refine k_ext HG (L' := [(0, .inl (.ref q0)), (1, .inl (.int a1)), (2, .inl (.int a2)), (3, .inl (.int (0 : Int32)))]) rfl rfl ⟨rfl, rfl, rfl, rfl, trivial⟩ ?_
  exact lp1 m (Nat.le_refl _) _
noncomputable def B_X5_brought_6_2 (h : zH) (c0 : Nat) (c1 : Int32) (c2 : Int32) (s : (Int32)) : (Int32) ⊕ (Int32) := (if s < (hv h c0 17) then (if s = c1 then (Sum.inl (s + (1 : Int32))) else (if ((c2 >>> (s &&& 31)) &&& (1 : Int32)) = (0 : Int32) then (Sum.inl (s + (1 : Int32))) else (if (hv h (hr h c0 18) s.toNatClampNeg) = (1 : Int32) then (Sum.inl (s + (1 : Int32))) else (if (hv h (hr h c0 18) s.toNatClampNeg) = (3 : Int32) then (Sum.inl (s + (1 : Int32))) else (Sum.inr s))))) else (Sum.inr (-1 : Int32)))
noncomputable def F_X5_brought_6 (h : zH) (q0 : Nat) (a1 : Int32) (a2 : Int32) : Int32 := (fx (B_X5_brought_6_2 h q0 a1 a2) 0 (0 : Int32))
theorem x_X5_brought_6 {scr : List zV} {T : List Nat} {h : zH} {q0 : Nat} {a1 : Int32} {a2 : Int32} (hsc : cT scr) (K : hOK kty T h) (hq_q0 : T[q0]? = some 6) (hh : cH h) : xI scr 163 [.inl (.ref q0), .inl (.int a1), .inl (.int a2)] h (F_X5_brought_6 h q0 a1 a2) := by
  refine xI_intro (E := ze_X5_brought) hsc rfl (cTb_ok rfl) hh (fun d r h' G HG Pf hR m => ?_)
  have K := kOK_refl (W := []) K
  unfold F_X5_brought_6
  show G m _ (0, [(0, .inl (.ref q0)), (1, .inl (.int a1)), (2, .inl (.int a2))], [], h, 0, 0)
  refine k_steps HG 2 (zB_iff.mpr (?_ : G m _ (2, [(3, .inl (.int (0 : Int32))), (0, .inl (.ref q0)), (1, .inl (.int a1)), (2, .inl (.int a2))], [], h, 0, 0)))
  have lp1 : ∀ m1, m1 ≤ m → ∀ (v1_3 : Int32), G m1 (Pf (fx (B_X5_brought_6_2 h q0 a1 a2) 0 v1_3)) (2, [(0, .inl (.ref q0)), (1, .inl (.int a1)), (2, .inl (.int a2)), (3, .inl (.int v1_3))], [], h, 0, 0) := by
    intro m1
    induction m1 with
    | zero =>
      intros
      exact k_zero HG
    | succ m1 ih1 =>
      intro le1 v1_3
      have le1 := Nat.le_of_succ_le le1
      have ih1 := ih1 le1
      refine k_fx ?_
      rw [B_X5_brought_6_2]
      refine k_first HG 1 (zB_iff.mpr (?_ : G m1 _ (4, [(0, .inl (.ref q0)), (1, .inl (.int a1)), (2, .inl (.int a2)), (3, .inl (.int v1_3))], [.inl (.ref q0), .inl (.int v1_3)], h, 0, 0)))
      refine k_getI HG rfl K hq_q0 rfl (Nat.le_of_ble_eq_true rfl) rfl (?_ : G m1 _ (7, [(0, .inl (.ref q0)), (1, .inl (.int a1)), (2, .inl (.int a2)), (3, .inl (.int v1_3))], [.inl (.int (hv h q0 17)), .inl (.int v1_3)], h, 0, 0))
      refine k_steps HG 1 (kb_ge (x := v1_3) (y := (hv h q0 17)) ?_ ?_)
      · show G m1 _ (51, [(0, .inl (.ref q0)), (1, .inl (.int a1)), (2, .inl (.int a2)), (3, .inl (.int v1_3))], [], h, 0, 0)
        refine k_steps HG 1 (zB_iff.mpr (?_ : G m1 _ (52, [(0, .inl (.ref q0)), (1, .inl (.int a1)), (2, .inl (.int a2)), (3, .inl (.int v1_3))], [.inl (.int (-1 : Int32))], h, 0, 0)))
        exact k_reti HG rfl rfl (fun e1 e2 => hR _ e1 e2)
      · show G m1 _ (10, [(0, .inl (.ref q0)), (1, .inl (.int a1)), (2, .inl (.int a2)), (3, .inl (.int v1_3))], [], h, 0, 0)
        refine k_steps HG 3 (kb_eq (x := v1_3) (y := a1) ?_ ?_)
        · show G m1 _ (45, [(0, .inl (.ref q0)), (1, .inl (.int a1)), (2, .inl (.int a2)), (3, .inl (.int v1_3))], [], h, 0, 0)
          refine k_steps HG 2 (zB_iff.mpr (?_ : G m1 _ (2, [(3, .inl (.int (v1_3 + (1 : Int32)))), (0, .inl (.ref q0)), (1, .inl (.int a1)), (2, .inl (.int a2))], [], h, 0, 0)))
          refine k_ext HG (L' := [(0, .inl (.ref q0)), (1, .inl (.int a1)), (2, .inl (.int a2)), (3, .inl (.int (v1_3 + (1 : Int32))))]) rfl rfl ⟨rfl, rfl, rfl, rfl, trivial⟩ ?_
          exact ih1 _
        · show G m1 _ (15, [(0, .inl (.ref q0)), (1, .inl (.int a1)), (2, .inl (.int a2)), (3, .inl (.int v1_3))], [], h, 0, 0)
          refine k_steps HG 6 (kb_eq (x := ((a2 >>> (v1_3 &&& 31)) &&& (1 : Int32))) (y := (0 : Int32)) ?_ ?_)
          · show G m1 _ (45, [(0, .inl (.ref q0)), (1, .inl (.int a1)), (2, .inl (.int a2)), (3, .inl (.int v1_3))], [], h, 0, 0)
            refine k_steps HG 2 (zB_iff.mpr (?_ : G m1 _ (2, [(3, .inl (.int (v1_3 + (1 : Int32)))), (0, .inl (.ref q0)), (1, .inl (.int a1)), (2, .inl (.int a2))], [], h, 0, 0)))
            refine k_ext HG (L' := [(0, .inl (.ref q0)), (1, .inl (.int a1)), (2, .inl (.int a2)), (3, .inl (.int (v1_3 + (1 : Int32))))]) rfl rfl ⟨rfl, rfl, rfl, rfl, trivial⟩ ?_
            exact ih1 _
          · show G m1 _ (23, [(0, .inl (.ref q0)), (1, .inl (.int a1)), (2, .inl (.int a2)), (3, .inl (.int v1_3))], [], h, 0, 0)
            refine k_steps HG 1 (zB_iff.mpr (?_ : G m1 _ (24, [(0, .inl (.ref q0)), (1, .inl (.int a1)), (2, .inl (.int a2)), (3, .inl (.int v1_3))], [.inl (.ref q0)], h, 0, 0)))
            refine k_getR HG rfl K hq_q0 rfl (Nat.le_of_ble_eq_true rfl) rfl rfl (fun t2 => (?_ : G m1 _ (27, [(0, .inl (.ref q0)), (1, .inl (.int a1)), (2, .inl (.int a2)), (3, .inl (.int v1_3))], [.inl (.ref (hr h q0 18))], h, 0, 0)))
            refine k_steps HG 1 (zB_iff.mpr (?_ : G m1 _ (28, [(0, .inl (.ref q0)), (1, .inl (.int a1)), (2, .inl (.int a2)), (3, .inl (.int v1_3))], [.inl (.int v1_3), .inl (.ref (hr h q0 18))], h, 0, 0)))
            refine k_iald HG rfl K t2 rfl (fun _ => rfl) (?_ : G m1 _ (29, [(0, .inl (.ref q0)), (1, .inl (.int a1)), (2, .inl (.int a2)), (3, .inl (.int v1_3))], [.inl (.int (hv h (hr h q0 18) v1_3.toNatClampNeg))], h, 0, 0))
            refine k_steps HG 2 (kb_eq (x := (hv h (hr h q0 18) v1_3.toNatClampNeg)) (y := (1 : Int32)) ?_ ?_)
            · show G m1 _ (45, [(0, .inl (.ref q0)), (1, .inl (.int a1)), (2, .inl (.int a2)), (3, .inl (.int v1_3))], [], h, 0, 0)
              refine k_steps HG 2 (zB_iff.mpr (?_ : G m1 _ (2, [(3, .inl (.int (v1_3 + (1 : Int32)))), (0, .inl (.ref q0)), (1, .inl (.int a1)), (2, .inl (.int a2))], [], h, 0, 0)))
              refine k_ext HG (L' := [(0, .inl (.ref q0)), (1, .inl (.int a1)), (2, .inl (.int a2)), (3, .inl (.int (v1_3 + (1 : Int32))))]) rfl rfl ⟨rfl, rfl, rfl, rfl, trivial⟩ ?_
              exact ih1 _
            · show G m1 _ (33, [(0, .inl (.ref q0)), (1, .inl (.int a1)), (2, .inl (.int a2)), (3, .inl (.int v1_3))], [], h, 0, 0)
              refine k_steps HG 1 (zB_iff.mpr (?_ : G m1 _ (34, [(0, .inl (.ref q0)), (1, .inl (.int a1)), (2, .inl (.int a2)), (3, .inl (.int v1_3))], [.inl (.ref q0)], h, 0, 0)))
              refine k_getR HG rfl K hq_q0 rfl (Nat.le_of_ble_eq_true rfl) rfl rfl (fun t3 => (?_ : G m1 _ (37, [(0, .inl (.ref q0)), (1, .inl (.int a1)), (2, .inl (.int a2)), (3, .inl (.int v1_3))], [.inl (.ref (hr h q0 18))], h, 0, 0)))
              refine k_steps HG 1 (zB_iff.mpr (?_ : G m1 _ (38, [(0, .inl (.ref q0)), (1, .inl (.int a1)), (2, .inl (.int a2)), (3, .inl (.int v1_3))], [.inl (.int v1_3), .inl (.ref (hr h q0 18))], h, 0, 0)))
              refine k_iald HG rfl K t3 rfl (fun _ => rfl) (?_ : G m1 _ (39, [(0, .inl (.ref q0)), (1, .inl (.int a1)), (2, .inl (.int a2)), (3, .inl (.int v1_3))], [.inl (.int (hv h (hr h q0 18) v1_3.toNatClampNeg))], h, 0, 0))
              refine k_steps HG 2 (kb_eq (x := (hv h (hr h q0 18) v1_3.toNatClampNeg)) (y := (3 : Int32)) ?_ ?_)
              · show G m1 _ (45, [(0, .inl (.ref q0)), (1, .inl (.int a1)), (2, .inl (.int a2)), (3, .inl (.int v1_3))], [], h, 0, 0)
                refine k_steps HG 2 (zB_iff.mpr (?_ : G m1 _ (2, [(3, .inl (.int (v1_3 + (1 : Int32)))), (0, .inl (.ref q0)), (1, .inl (.int a1)), (2, .inl (.int a2))], [], h, 0, 0)))
                refine k_ext HG (L' := [(0, .inl (.ref q0)), (1, .inl (.int a1)), (2, .inl (.int a2)), (3, .inl (.int (v1_3 + (1 : Int32))))]) rfl rfl ⟨rfl, rfl, rfl, rfl, trivial⟩ ?_
                exact ih1 _
              · show G m1 _ (43, [(0, .inl (.ref q0)), (1, .inl (.int a1)), (2, .inl (.int a2)), (3, .inl (.int v1_3))], [], h, 0, 0)
                refine k_steps HG 1 (zB_iff.mpr (?_ : G m1 _ (44, [(0, .inl (.ref q0)), (1, .inl (.int a1)), (2, .inl (.int a2)), (3, .inl (.int v1_3))], [.inl (.int v1_3)], h, 0, 0)))
                exact k_reti HG rfl rfl (fun e1 e2 => hR _ e1 e2)
  refine k_ext HG (L' := [(0, .inl (.ref q0)), (1, .inl (.int a1)), (2, .inl (.int a2)), (3, .inl (.int (0 : Int32)))]) rfl rfl ⟨rfl, rfl, rfl, rfl, trivial⟩ ?_
  exact lp1 m (Nat.le_refl _) _
noncomputable def F_X5_fit (a0 : Int32) (b1 : Int64) : Int64 := (if a0 = (0 : Int32) then (Int32.toInt64 (Int8.toInt32 (Int32.toInt8 (Int64.toInt32 b1)))) else (if a0 = (1 : Int32) then (Int32.toInt64 (Int16.toInt32 (Int32.toInt16 (Int64.toInt32 b1)))) else (if a0 = (2 : Int32) then (Int32.toInt64 (Int64.toInt32 b1)) else (if a0 = (3 : Int32) then b1 else (if b1 = (0 : Int64) then (0 : Int64) else (1 : Int64))))))
theorem x_X5_fit {scr : List zV} {h : zH} {a0 : Int32} {b1 : Int64} (hsc : cT scr) (hh : cH h) : xJ scr 179 [.inl (.int a0), .inl (.long b1)] h (F_X5_fit a0 b1) := by
  refine xJ_intro (E := ze_X5_fit) hsc rfl (cTb_ok rfl) hh (fun d r h' G HG Pf hR m => ?_)
  unfold F_X5_fit
  show G m _ (0, [(0, .inl (.int a0)), (1, .inl (.long b1))], [], h, 0, 0)
  refine k_steps HG 1 (zB_iff.mpr (?_ : G m _ (1, [(0, .inl (.int a0)), (1, .inl (.long b1))], [.inl (.int a0)], h, 0, 0)))
  refine g_tsw (k_walk HG) (d := 47) (lo := 0) (hi := 3) (offs := #[31, 36, 41, 45]) rfl (x := a0) rfl (fun hs1 => zB_iff.mpr ?_) (And.intro (fun hs1 => zB_iff.mpr ?_) (And.intro (fun hs1 => zB_iff.mpr ?_) (And.intro (fun hs1 => zB_iff.mpr ?_) (And.intro (fun hs1 => zB_iff.mpr ?_) trivial))))
  · show G m _ (48, [(0, .inl (.int a0)), (1, .inl (.long b1))], [], h, 0, 0)
    refine k_neg (k_swn (lo := 0) (hi := 3) hs1 (by decide)) ?_
    refine k_neg (k_swn (lo := 0) (hi := 3) hs1 (by decide)) ?_
    refine k_neg (k_swn (lo := 0) (hi := 3) hs1 (by decide)) ?_
    refine k_neg (k_swn (lo := 0) (hi := 3) hs1 (by decide)) ?_
    refine k_steps HG 4 (t_and2 (zisI_lcmp b1 (0 : Int64)) (kl_eq (x := b1) (y := (0 : Int64)) ?_ ?_))
    · show G m _ (58, [(0, .inl (.int a0)), (1, .inl (.long b1))], [], h, 0, 0)
      refine k_steps HG 1 (zB_iff.mpr (?_ : G m _ (59, [(0, .inl (.int a0)), (1, .inl (.long b1))], [.inl (.long (0 : Int64))], h, 0, 0)))
      exact k_retl HG rfl rfl (fun e1 e2 => hR _ e1 e2)
    · show G m _ (54, [(0, .inl (.int a0)), (1, .inl (.long b1))], [], h, 0, 0)
      refine k_steps HG 2 (zB_iff.mpr (?_ : G m _ (59, [(0, .inl (.int a0)), (1, .inl (.long b1))], [.inl (.long (1 : Int64))], h, 0, 0)))
      exact k_retl HG rfl rfl (fun e1 e2 => hR _ e1 e2)
  · show G m _ (32, [(0, .inl (.int a0)), (1, .inl (.long b1))], [], h, 0, 0)
    have hs1 : a0 = (0 : Int32) := k_sw hs1 rfl
    refine k_pos hs1 ?_
    refine k_steps HG 4 (zB_iff.mpr (?_ : G m _ (36, [(0, .inl (.int a0)), (1, .inl (.long b1))], [.inl (.long (Int32.toInt64 (Int8.toInt32 (Int32.toInt8 (Int64.toInt32 b1)))))], h, 0, 0)))
    exact k_retl HG rfl rfl (fun e1 e2 => hR _ e1 e2)
  · show G m _ (37, [(0, .inl (.int a0)), (1, .inl (.long b1))], [], h, 0, 0)
    have hs1 : a0 = (1 : Int32) := k_sw hs1 rfl
    refine k_neg (by rw [hs1]; decide) ?_
    refine k_pos hs1 ?_
    refine k_steps HG 4 (zB_iff.mpr (?_ : G m _ (41, [(0, .inl (.int a0)), (1, .inl (.long b1))], [.inl (.long (Int32.toInt64 (Int16.toInt32 (Int32.toInt16 (Int64.toInt32 b1)))))], h, 0, 0)))
    exact k_retl HG rfl rfl (fun e1 e2 => hR _ e1 e2)
  · show G m _ (42, [(0, .inl (.int a0)), (1, .inl (.long b1))], [], h, 0, 0)
    have hs1 : a0 = (2 : Int32) := k_sw hs1 rfl
    refine k_neg (by rw [hs1]; decide) ?_
    refine k_neg (by rw [hs1]; decide) ?_
    refine k_pos hs1 ?_
    refine k_steps HG 3 (zB_iff.mpr (?_ : G m _ (45, [(0, .inl (.int a0)), (1, .inl (.long b1))], [.inl (.long (Int32.toInt64 (Int64.toInt32 b1)))], h, 0, 0)))
    exact k_retl HG rfl rfl (fun e1 e2 => hR _ e1 e2)
  · show G m _ (46, [(0, .inl (.int a0)), (1, .inl (.long b1))], [], h, 0, 0)
    have hs1 : a0 = (3 : Int32) := k_sw hs1 rfl
    refine k_neg (by rw [hs1]; decide) ?_
    refine k_neg (by rw [hs1]; decide) ?_
    refine k_neg (by rw [hs1]; decide) ?_
    refine k_pos hs1 ?_
    refine k_steps HG 1 (zB_iff.mpr (?_ : G m _ (47, [(0, .inl (.int a0)), (1, .inl (.long b1))], [.inl (.long b1)], h, 0, 0)))
    exact k_retl HG rfl rfl (fun e1 e2 => hR _ e1 e2)
noncomputable def F_X5_fullWith (h : zH) (q0 : Nat) (a1 : Int32) : Int32 := (((((4 : Int32) * a1) + (hv h q0 9)) - (1 : Int32)) / (hv h q0 9))
theorem x_X5_fullWith {scr : List zV} {T : List Nat} {h : zH} {q0 : Nat} {a1 : Int32} (hsc : cT scr) (K : hOK kty T h) (hq_q0 : T[q0]? = some 5) (hh : cH h) : xI scr 185 [.inl (.ref q0), .inl (.int a1)] h (F_X5_fullWith h q0 a1) := by
  refine xI_intro (E := ze_X5_fullWith) hsc rfl (cTb_ok rfl) hh (fun d r h' G HG Pf hR m => ?_)
  have K := kOK_refl (W := []) K
  unfold F_X5_fullWith
  show G m _ (0, [(0, .inl (.ref q0)), (1, .inl (.int a1))], [], h, 0, 0)
  refine k_steps HG 4 (zB_iff.mpr (?_ : G m _ (4, [(0, .inl (.ref q0)), (1, .inl (.int a1))], [.inl (.ref q0), .inl (.int ((4 : Int32) * a1))], h, 0, 0)))
  refine k_getI HG rfl K hq_q0 rfl (Nat.le_of_ble_eq_true rfl) rfl (?_ : G m _ (7, [(0, .inl (.ref q0)), (1, .inl (.int a1))], [.inl (.int (hv h q0 9)), .inl (.int ((4 : Int32) * a1))], h, 0, 0))
  refine k_steps HG 4 (zB_iff.mpr (?_ : G m _ (11, [(0, .inl (.ref q0)), (1, .inl (.int a1))], [.inl (.ref q0), .inl (.int ((((4 : Int32) * a1) + (hv h q0 9)) - (1 : Int32)))], h, 0, 0)))
  refine k_getI HG rfl K hq_q0 rfl (Nat.le_of_ble_eq_true rfl) rfl (?_ : G m _ (14, [(0, .inl (.ref q0)), (1, .inl (.int a1))], [.inl (.int (hv h q0 9)), .inl (.int ((((4 : Int32) * a1) + (hv h q0 9)) - (1 : Int32)))], h, 0, 0))
  refine k_div HG rfl (?_ : G m _ (15, [(0, .inl (.ref q0)), (1, .inl (.int a1))], [.inl (.int (((((4 : Int32) * a1) + (hv h q0 9)) - (1 : Int32)) / (hv h q0 9)))], h, 0, 0))
  exact k_reti HG rfl rfl (fun e1 e2 => hR _ e1 e2)
noncomputable def F_X5_in (b0 : Int64) (b1 : Int64) (b2 : Int64) : Int32 := (if b0 < b1 then (0 : Int32) else (if b2 < b0 then (0 : Int32) else (1 : Int32)))
theorem x_X5_in {scr : List zV} {h : zH} {b0 : Int64} {b1 : Int64} {b2 : Int64} (hsc : cT scr) (hh : cH h) : xI scr 191 [.inl (.long b0), .inl (.long b1), .inl (.long b2)] h (F_X5_in b0 b1 b2) := by
  refine xI_intro (E := ze_X5_in) hsc rfl (cTb_ok rfl) hh (fun d r h' G HG Pf hR m => ?_)
  unfold F_X5_in
  show G m _ (0, [(0, .inl (.long b0)), (2, .inl (.long b1)), (4, .inl (.long b2))], [], h, 0, 0)
  refine k_steps HG 4 (t_and2 (zisI_lcmp b0 b1) (kl_lt (x := b0) (y := b1) ?_ ?_))
  · show G m _ (17, [(0, .inl (.long b0)), (2, .inl (.long b1)), (4, .inl (.long b2))], [], h, 0, 0)
    refine k_steps HG 1 (zB_iff.mpr (?_ : G m _ (18, [(0, .inl (.long b0)), (2, .inl (.long b1)), (4, .inl (.long b2))], [.inl (.int (0 : Int32))], h, 0, 0)))
    exact k_retz HG rfl rfl (fun e1 e2 => hR _ e1 e2)
  · show G m _ (6, [(0, .inl (.long b0)), (2, .inl (.long b1)), (4, .inl (.long b2))], [], h, 0, 0)
    refine k_steps HG 4 (t_and2 (zisI_lcmp b0 b2) (kl_gt (x := b0) (y := b2) ?_ ?_))
    · show G m _ (17, [(0, .inl (.long b0)), (2, .inl (.long b1)), (4, .inl (.long b2))], [], h, 0, 0)
      refine k_steps HG 1 (zB_iff.mpr (?_ : G m _ (18, [(0, .inl (.long b0)), (2, .inl (.long b1)), (4, .inl (.long b2))], [.inl (.int (0 : Int32))], h, 0, 0)))
      exact k_retz HG rfl rfl (fun e1 e2 => hR _ e1 e2)
    · show G m _ (13, [(0, .inl (.long b0)), (2, .inl (.long b1)), (4, .inl (.long b2))], [], h, 0, 0)
      refine k_steps HG 2 (zB_iff.mpr (?_ : G m _ (18, [(0, .inl (.long b0)), (2, .inl (.long b1)), (4, .inl (.long b2))], [.inl (.int (1 : Int32))], h, 0, 0)))
      exact k_retz HG rfl rfl (fun e1 e2 => hR _ e1 e2)
noncomputable def B_X5_inside_4 (h : zH) (c0 : Nat) (s : (Int32 × Int32)) : (Int32 × Int32) ⊕ (Int32) := (if (hv h c0 9) < s.2 then (Sum.inr s.1) else (Sum.inl ((s.1 + ((1 : Int32) - (hv h (hr h c0 16) s.2.toNatClampNeg))), (s.2 + (1 : Int32)))))
noncomputable def F_X5_inside (h : zH) (q0 : Nat) : Int32 := (fx (B_X5_inside_4 h q0) 0 ((0 : Int32), (1 : Int32)))
theorem x_X5_inside {scr : List zV} {T : List Nat} {h : zH} {q0 : Nat} (hsc : cT scr) (K : hOK kty T h) (hq_q0 : T[q0]? = some 5) (hh : cH h) : xI scr 193 [.inl (.ref q0)] h (F_X5_inside h q0) := by
  refine xI_intro (E := ze_X5_inside) hsc rfl (cTb_ok rfl) hh (fun d r h' G HG Pf hR m => ?_)
  have K := kOK_refl (W := []) K
  unfold F_X5_inside
  show G m _ (0, [(0, .inl (.ref q0))], [], h, 0, 0)
  refine k_steps HG 4 (zB_iff.mpr (?_ : G m _ (4, [(2, .inl (.int (1 : Int32))), (1, .inl (.int (0 : Int32))), (0, .inl (.ref q0))], [], h, 0, 0)))
  have lp1 : ∀ m1, m1 ≤ m → ∀ (v1_1 : Int32) (v1_2 : Int32), G m1 (Pf (fx (B_X5_inside_4 h q0) 0 (v1_1, v1_2))) (4, [(0, .inl (.ref q0)), (1, .inl (.int v1_1)), (2, .inl (.int v1_2))], [], h, 0, 0) := by
    intro m1
    induction m1 with
    | zero =>
      intros
      exact k_zero HG
    | succ m1 ih1 =>
      intro le1 v1_1 v1_2
      have le1 := Nat.le_of_succ_le le1
      have ih1 := ih1 le1
      refine k_fx ?_
      rw [B_X5_inside_4]
      refine k_first HG 1 (zB_iff.mpr (?_ : G m1 _ (6, [(0, .inl (.ref q0)), (1, .inl (.int v1_1)), (2, .inl (.int v1_2))], [.inl (.ref q0), .inl (.int v1_2)], h, 0, 0)))
      refine k_getI HG rfl K hq_q0 rfl (Nat.le_of_ble_eq_true rfl) rfl (?_ : G m1 _ (9, [(0, .inl (.ref q0)), (1, .inl (.int v1_1)), (2, .inl (.int v1_2))], [.inl (.int (hv h q0 9)), .inl (.int v1_2)], h, 0, 0))
      refine k_steps HG 1 (kb_gt (x := v1_2) (y := (hv h q0 9)) ?_ ?_)
      · show G m1 _ (29, [(0, .inl (.ref q0)), (1, .inl (.int v1_1)), (2, .inl (.int v1_2))], [], h, 0, 0)
        refine k_steps HG 1 (zB_iff.mpr (?_ : G m1 _ (30, [(0, .inl (.ref q0)), (1, .inl (.int v1_1)), (2, .inl (.int v1_2))], [.inl (.int v1_1)], h, 0, 0)))
        exact k_reti HG rfl rfl (fun e1 e2 => hR _ e1 e2)
      · show G m1 _ (12, [(0, .inl (.ref q0)), (1, .inl (.int v1_1)), (2, .inl (.int v1_2))], [], h, 0, 0)
        refine k_steps HG 3 (zB_iff.mpr (?_ : G m1 _ (15, [(0, .inl (.ref q0)), (1, .inl (.int v1_1)), (2, .inl (.int v1_2))], [.inl (.ref q0), .inl (.int (1 : Int32)), .inl (.int v1_1)], h, 0, 0)))
        refine k_getR HG rfl K hq_q0 rfl (Nat.le_of_ble_eq_true rfl) rfl rfl (fun t2 => (?_ : G m1 _ (18, [(0, .inl (.ref q0)), (1, .inl (.int v1_1)), (2, .inl (.int v1_2))], [.inl (.ref (hr h q0 16)), .inl (.int (1 : Int32)), .inl (.int v1_1)], h, 0, 0)))
        refine k_steps HG 1 (zB_iff.mpr (?_ : G m1 _ (19, [(0, .inl (.ref q0)), (1, .inl (.int v1_1)), (2, .inl (.int v1_2))], [.inl (.int v1_2), .inl (.ref (hr h q0 16)), .inl (.int (1 : Int32)), .inl (.int v1_1)], h, 0, 0)))
        refine k_iald HG rfl K t2 rfl (fun _ => rfl) (?_ : G m1 _ (20, [(0, .inl (.ref q0)), (1, .inl (.int v1_1)), (2, .inl (.int v1_2))], [.inl (.int (hv h (hr h q0 16) v1_2.toNatClampNeg)), .inl (.int (1 : Int32)), .inl (.int v1_1)], h, 0, 0))
        refine k_steps HG 5 (zB_iff.mpr (?_ : G m1 _ (4, [(2, .inl (.int (v1_2 + (1 : Int32)))), (1, .inl (.int (v1_1 + ((1 : Int32) - (hv h (hr h q0 16) v1_2.toNatClampNeg))))), (0, .inl (.ref q0))], [], h, 0, 0)))
        refine k_ext HG (L' := [(0, .inl (.ref q0)), (1, .inl (.int (v1_1 + ((1 : Int32) - (hv h (hr h q0 16) v1_2.toNatClampNeg))))), (2, .inl (.int (v1_2 + (1 : Int32))))]) rfl rfl ⟨rfl, rfl, rfl, trivial⟩ ?_
        exact ih1 _ _
  refine k_ext HG (L' := [(0, .inl (.ref q0)), (1, .inl (.int (0 : Int32))), (2, .inl (.int (1 : Int32)))]) rfl rfl ⟨rfl, rfl, rfl, trivial⟩ ?_
  exact lp1 m (Nat.le_refl _) _ _
noncomputable def B_X5_inside_6_4 (h : zH) (c0 : Nat) (s : (Int32 × Int32)) : (Int32 × Int32) ⊕ (Int32) := (if (hv h c0 9) < s.2 then (Sum.inr s.1) else (Sum.inl ((s.1 + ((1 : Int32) - (hv h (hr h c0 16) s.2.toNatClampNeg))), (s.2 + (1 : Int32)))))
noncomputable def F_X5_inside_6 (h : zH) (q0 : Nat) : Int32 := (fx (B_X5_inside_6_4 h q0) 0 ((0 : Int32), (1 : Int32)))
theorem x_X5_inside_6 {scr : List zV} {T : List Nat} {h : zH} {q0 : Nat} (hsc : cT scr) (K : hOK kty T h) (hq_q0 : T[q0]? = some 6) (hh : cH h) : xI scr 193 [.inl (.ref q0)] h (F_X5_inside_6 h q0) := by
  refine xI_intro (E := ze_X5_inside) hsc rfl (cTb_ok rfl) hh (fun d r h' G HG Pf hR m => ?_)
  have K := kOK_refl (W := []) K
  unfold F_X5_inside_6
  show G m _ (0, [(0, .inl (.ref q0))], [], h, 0, 0)
  refine k_steps HG 4 (zB_iff.mpr (?_ : G m _ (4, [(2, .inl (.int (1 : Int32))), (1, .inl (.int (0 : Int32))), (0, .inl (.ref q0))], [], h, 0, 0)))
  have lp1 : ∀ m1, m1 ≤ m → ∀ (v1_1 : Int32) (v1_2 : Int32), G m1 (Pf (fx (B_X5_inside_6_4 h q0) 0 (v1_1, v1_2))) (4, [(0, .inl (.ref q0)), (1, .inl (.int v1_1)), (2, .inl (.int v1_2))], [], h, 0, 0) := by
    intro m1
    induction m1 with
    | zero =>
      intros
      exact k_zero HG
    | succ m1 ih1 =>
      intro le1 v1_1 v1_2
      have le1 := Nat.le_of_succ_le le1
      have ih1 := ih1 le1
      refine k_fx ?_
      rw [B_X5_inside_6_4]
      refine k_first HG 1 (zB_iff.mpr (?_ : G m1 _ (6, [(0, .inl (.ref q0)), (1, .inl (.int v1_1)), (2, .inl (.int v1_2))], [.inl (.ref q0), .inl (.int v1_2)], h, 0, 0)))
      refine k_getI HG rfl K hq_q0 rfl (Nat.le_of_ble_eq_true rfl) rfl (?_ : G m1 _ (9, [(0, .inl (.ref q0)), (1, .inl (.int v1_1)), (2, .inl (.int v1_2))], [.inl (.int (hv h q0 9)), .inl (.int v1_2)], h, 0, 0))
      refine k_steps HG 1 (kb_gt (x := v1_2) (y := (hv h q0 9)) ?_ ?_)
      · show G m1 _ (29, [(0, .inl (.ref q0)), (1, .inl (.int v1_1)), (2, .inl (.int v1_2))], [], h, 0, 0)
        refine k_steps HG 1 (zB_iff.mpr (?_ : G m1 _ (30, [(0, .inl (.ref q0)), (1, .inl (.int v1_1)), (2, .inl (.int v1_2))], [.inl (.int v1_1)], h, 0, 0)))
        exact k_reti HG rfl rfl (fun e1 e2 => hR _ e1 e2)
      · show G m1 _ (12, [(0, .inl (.ref q0)), (1, .inl (.int v1_1)), (2, .inl (.int v1_2))], [], h, 0, 0)
        refine k_steps HG 3 (zB_iff.mpr (?_ : G m1 _ (15, [(0, .inl (.ref q0)), (1, .inl (.int v1_1)), (2, .inl (.int v1_2))], [.inl (.ref q0), .inl (.int (1 : Int32)), .inl (.int v1_1)], h, 0, 0)))
        refine k_getR HG rfl K hq_q0 rfl (Nat.le_of_ble_eq_true rfl) rfl rfl (fun t2 => (?_ : G m1 _ (18, [(0, .inl (.ref q0)), (1, .inl (.int v1_1)), (2, .inl (.int v1_2))], [.inl (.ref (hr h q0 16)), .inl (.int (1 : Int32)), .inl (.int v1_1)], h, 0, 0)))
        refine k_steps HG 1 (zB_iff.mpr (?_ : G m1 _ (19, [(0, .inl (.ref q0)), (1, .inl (.int v1_1)), (2, .inl (.int v1_2))], [.inl (.int v1_2), .inl (.ref (hr h q0 16)), .inl (.int (1 : Int32)), .inl (.int v1_1)], h, 0, 0)))
        refine k_iald HG rfl K t2 rfl (fun _ => rfl) (?_ : G m1 _ (20, [(0, .inl (.ref q0)), (1, .inl (.int v1_1)), (2, .inl (.int v1_2))], [.inl (.int (hv h (hr h q0 16) v1_2.toNatClampNeg)), .inl (.int (1 : Int32)), .inl (.int v1_1)], h, 0, 0))
        refine k_steps HG 5 (zB_iff.mpr (?_ : G m1 _ (4, [(2, .inl (.int (v1_2 + (1 : Int32)))), (1, .inl (.int (v1_1 + ((1 : Int32) - (hv h (hr h q0 16) v1_2.toNatClampNeg))))), (0, .inl (.ref q0))], [], h, 0, 0)))
        refine k_ext HG (L' := [(0, .inl (.ref q0)), (1, .inl (.int (v1_1 + ((1 : Int32) - (hv h (hr h q0 16) v1_2.toNatClampNeg))))), (2, .inl (.int (v1_2 + (1 : Int32))))]) rfl rfl ⟨rfl, rfl, rfl, trivial⟩ ?_
        exact ih1 _ _
  refine k_ext HG (L' := [(0, .inl (.ref q0)), (1, .inl (.int (0 : Int32))), (2, .inl (.int (1 : Int32)))]) rfl rfl ⟨rfl, rfl, rfl, trivial⟩ ?_
  exact lp1 m (Nat.le_refl _) _ _
