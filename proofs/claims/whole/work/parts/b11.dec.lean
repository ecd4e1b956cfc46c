def W_X5_row : List (Nat × Nat) := [(24, 1000), (25, 1000), (26, 1000), (28, 1000), (30, 1000)]
noncomputable def B_X5_row_67 (c0 : Nat) (c1 : Int32) (c2 : Int32) (c3 : Int32) (s : (Int32 × zH)) : (Int32 × zH) ⊕ (Int32 × zH) := (if s.1 < (40 : Int32) then (letf (hput s.2 (hr s.2 (hr s.2 c0 3) c1.toNatClampNeg) s.1.toNatClampNeg (.inl (.long (0 : Int64)))) (fun h1003 => (Sum.inl ((s.1 + (1 : Int32)), h1003)))) else (Sum.inr ((1 : Int32), s.2)))
noncomputable def F_X5_row (h : zH) (q0 : Nat) (a1 : Int32) (a2 : Int32) (a3 : Int32) : Int32 × zH := (letf (F_X5_in (Int32.toInt64 a1) (0 : Int64) (7 : Int64)) (fun y1 => (if y1 = (0 : Int32) then (letf (F_X5_refuse h q0 (-2 : Int32)) (fun y2 => (y2.1, y2.2))) else (letf (F_X5_in (Int32.toInt64 a2) (0 : Int64) (4 : Int64)) (fun y3 => (if y3 = (0 : Int32) then (letf (F_X5_refuse h q0 (-2 : Int32)) (fun y4 => (y4.1, y4.2))) else (letf (F_X5_in (Int32.toInt64 a3) (0 : Int64) (40 : Int64)) (fun y5 => (if y5 = (0 : Int32) then (letf (F_X5_refuse h q0 (-2 : Int32)) (fun y16 => (y16.1, y16.2))) else (letf (hput h (hr h q0 0) a1.toNatClampNeg (.inl (.int (1 : Int32)))) (fun h7 => (letf (hput h7 (hr h7 q0 1) a1.toNatClampNeg (.inl (.int a2))) (fun h9 => (letf (hput h9 (hr h9 q0 2) a1.toNatClampNeg (.inl (.int a3))) (fun h11 => (fx (B_X5_row_67 q0 a1 a2 a3) (0, []) ((0 : Int32), h11)))))))))))))))))
theorem x_X5_row {scr : List zV} {T : List Nat} {h : zH} {q0 : Nat} {a1 : Int32} {a2 : Int32} {a3 : Int32} (hsc : cT scr) (K : hOK kty T h) (hq_q0 : T[q0]? = some 5) (hh : cH h) : xIH scr W_X5_row T T 217 [.inl (.ref q0), .inl (.int a1), .inl (.int a2), .inl (.int a3)] h (F_X5_row h q0 a1 a2 a3) := by
  refine xIH_intro (E := ze_X5_row) hsc rfl (cTb_ok rfl) hh (fun d r h' G HG Pf hR m => ?_)
  have K := kOK_refl (W := W_X5_row) K
  unfold F_X5_row
  show G m _ (0, [(0, .inl (.ref q0)), (1, .inl (.int a1)), (2, .inl (.int a2)), (3, .inl (.int a3))], [], h, 0, 0)
  refine k_steps HG 4 (zB_iff.mpr (?_ : G m _ (6, [(0, .inl (.ref q0)), (1, .inl (.int a1)), (2, .inl (.int a2)), (3, .inl (.int a3))], [.inl (.long (7 : Int64)), .inl (.long (0 : Int64)), .inl (.long (Int32.toInt64 a1))], h, 0, 0)))
  refine k_cSI HG (E' := ze_X5_in) (Or.inl rfl) hsc rfl rfl rfl rfl (fun hh => x_X5_in hsc hh) (fun y1 => (?_ : G m _ (9, [(0, .inl (.ref q0)), (1, .inl (.int a1)), (2, .inl (.int a2)), (3, .inl (.int a3))], [.inl (.int y1)], h, 0, 0)))
  refine k_steps HG 1 (kb_eq (x := y1) (y := (0 : Int32)) ?_ ?_)
  · show G m _ (36, [(0, .inl (.ref q0)), (1, .inl (.int a1)), (2, .inl (.int a2)), (3, .inl (.int a3))], [], h, 0, 0)
    refine k_steps HG 2 (zB_iff.mpr (?_ : G m _ (39, [(0, .inl (.ref q0)), (1, .inl (.int a1)), (2, .inl (.int a2)), (3, .inl (.int a3))], [.inl (.int (-2 : Int32)), .inl (.ref q0)], h, 0, 0)))
    refine k_cVIH HG (E' := ze_X5_refuse) (Or.inl ⟨rfl, rfl⟩) hsc rfl rfl rfl rfl rfl K rfl (fun hh => x_X5_refuse hsc K.1 hq_q0 hh) (fun y2 K2 => (?_ : G m _ (42, [(0, .inl (.ref q0)), (1, .inl (.int a1)), (2, .inl (.int a2)), (3, .inl (.int a3))], [.inl (.int y2.1)], y2.2, 0, 0)))
    exact k_reti HG rfl rfl (fun e1 e2 => hR _ _ e1 e2 K2)
  · show G m _ (12, [(0, .inl (.ref q0)), (1, .inl (.int a1)), (2, .inl (.int a2)), (3, .inl (.int a3))], [], h, 0, 0)
    refine k_steps HG 4 (zB_iff.mpr (?_ : G m _ (18, [(0, .inl (.ref q0)), (1, .inl (.int a1)), (2, .inl (.int a2)), (3, .inl (.int a3))], [.inl (.long (4 : Int64)), .inl (.long (0 : Int64)), .inl (.long (Int32.toInt64 a2))], h, 0, 0)))
    refine k_cSI HG (E' := ze_X5_in) (Or.inl rfl) hsc rfl rfl rfl rfl (fun hh => x_X5_in hsc hh) (fun y3 => (?_ : G m _ (21, [(0, .inl (.ref q0)), (1, .inl (.int a1)), (2, .inl (.int a2)), (3, .inl (.int a3))], [.inl (.int y3)], h, 0, 0)))
    refine k_steps HG 1 (kb_eq (x := y3) (y := (0 : Int32)) ?_ ?_)
    · show G m _ (36, [(0, .inl (.ref q0)), (1, .inl (.int a1)), (2, .inl (.int a2)), (3, .inl (.int a3))], [], h, 0, 0)
      refine k_steps HG 2 (zB_iff.mpr (?_ : G m _ (39, [(0, .inl (.ref q0)), (1, .inl (.int a1)), (2, .inl (.int a2)), (3, .inl (.int a3))], [.inl (.int (-2 : Int32)), .inl (.ref q0)], h, 0, 0)))
      refine k_cVIH HG (E' := ze_X5_refuse) (Or.inl ⟨rfl, rfl⟩) hsc rfl rfl rfl rfl rfl K rfl (fun hh => x_X5_refuse hsc K.1 hq_q0 hh) (fun y4 K4 => (?_ : G m _ (42, [(0, .inl (.ref q0)), (1, .inl (.int a1)), (2, .inl (.int a2)), (3, .inl (.int a3))], [.inl (.int y4.1)], y4.2, 0, 0)))
      exact k_reti HG rfl rfl (fun e1 e2 => hR _ _ e1 e2 K4)
    · show G m _ (24, [(0, .inl (.ref q0)), (1, .inl (.int a1)), (2, .inl (.int a2)), (3, .inl (.int a3))], [], h, 0, 0)
      refine k_steps HG 4 (zB_iff.mpr (?_ : G m _ (30, [(0, .inl (.ref q0)), (1, .inl (.int a1)), (2, .inl (.int a2)), (3, .inl (.int a3))], [.inl (.long (40 : Int64)), .inl (.long (0 : Int64)), .inl (.long (Int32.toInt64 a3))], h, 0, 0)))
      refine k_cSI HG (E' := ze_X5_in) (Or.inl rfl) hsc rfl rfl rfl rfl (fun hh => x_X5_in hsc hh) (fun y5 => (?_ : G m _ (33, [(0, .inl (.ref q0)), (1, .inl (.int a1)), (2, .inl (.int a2)), (3, .inl (.int a3))], [.inl (.int y5)], h, 0, 0)))
      refine k_steps HG 1 (kb_ne (x := y5) (y := (0 : Int32)) ?_ ?_)
      · show G m _ (43, [(0, .inl (.ref q0)), (1, .inl (.int a1)), (2, .inl (.int a2)), (3, .inl (.int a3))], [], h, 0, 0)
        refine k_steps HG 1 (zB_iff.mpr (?_ : G m _ (44, [(0, .inl (.ref q0)), (1, .inl (.int a1)), (2, .inl (.int a2)), (3, .inl (.int a3))], [.inl (.ref q0)], h, 0, 0)))
        refine k_getR HG rfl K hq_q0 rfl (Nat.le_of_ble_eq_true rfl) rfl rfl (fun t6 => (?_ : G m _ (47, [(0, .inl (.ref q0)), (1, .inl (.int a1)), (2, .inl (.int a2)), (3, .inl (.int a3))], [.inl (.ref (hr h q0 0))], h, 0, 0)))
        refine k_steps HG 2 (zB_iff.mpr (?_ : G m _ (49, [(0, .inl (.ref q0)), (1, .inl (.int a1)), (2, .inl (.int a2)), (3, .inl (.int a3))], [.inl (.int (1 : Int32)), .inl (.int a1), .inl (.ref (hr h q0 0))], h, 0, 0)))
        refine k_iast HG rfl K t6 rfl (fun _ => rfl) rfl (fun h7 K7 => (?_ : G m _ (50, [(0, .inl (.ref q0)), (1, .inl (.int a1)), (2, .inl (.int a2)), (3, .inl (.int a3))], [], h7, 0, 0)))
        refine k_steps HG 1 (zB_iff.mpr (?_ : G m _ (51, [(0, .inl (.ref q0)), (1, .inl (.int a1)), (2, .inl (.int a2)), (3, .inl (.int a3))], [.inl (.ref q0)], h7, 0, 0)))
        refine k_getR HG rfl K7 hq_q0 rfl (Nat.le_of_ble_eq_true rfl) rfl rfl (fun t8 => (?_ : G m _ (54, [(0, .inl (.ref q0)), (1, .inl (.int a1)), (2, .inl (.int a2)), (3, .inl (.int a3))], [.inl (.ref (hr h7 q0 1))], h7, 0, 0)))
        refine k_steps HG 2 (zB_iff.mpr (?_ : G m _ (56, [(0, .inl (.ref q0)), (1, .inl (.int a1)), (2, .inl (.int a2)), (3, .inl (.int a3))], [.inl (.int a2), .inl (.int a1), .inl (.ref (hr h7 q0 1))], h7, 0, 0)))
        refine k_iast HG rfl K7 t8 rfl (fun _ => rfl) rfl (fun h9 K9 => (?_ : G m _ (57, [(0, .inl (.ref q0)), (1, .inl (.int a1)), (2, .inl (.int a2)), (3, .inl (.int a3))], [], h9, 0, 0)))
        refine k_steps HG 1 (zB_iff.mpr (?_ : G m _ (58, [(0, .inl (.ref q0)), (1, .inl (.int a1)), (2, .inl (.int a2)), (3, .inl (.int a3))], [.inl (.ref q0)], h9, 0, 0)))
        refine k_getR HG rfl K9 hq_q0 rfl (Nat.le_of_ble_eq_true rfl) rfl rfl (fun t10 => (?_ : G m _ (61, [(0, .inl (.ref q0)), (1, .inl (.int a1)), (2, .inl (.int a2)), (3, .inl (.int a3))], [.inl (.ref (hr h9 q0 2))], h9, 0, 0)))
        refine k_steps HG 2 (zB_iff.mpr (?_ : G m _ (63, [(0, .inl (.ref q0)), (1, .inl (.int a1)), (2, .inl (.int a2)), (3, .inl (.int a3))], [.inl (.int a3), .inl (.int a1), .inl (.ref (hr h9 q0 2))], h9, 0, 0)))
        refine k_iast HG rfl K9 t10 rfl (fun _ => rfl) rfl (fun h11 K11 => (?_ : G m _ (64, [(0, .inl (.ref q0)), (1, .inl (.int a1)), (2, .inl (.int a2)), (3, .inl (.int a3))], [], h11, 0, 0)))
        refine k_steps HG 2 (zB_iff.mpr (?_ : G m _ (67, [(4, .inl (.int (0 : Int32))), (0, .inl (.ref q0)), (1, .inl (.int a1)), (2, .inl (.int a2)), (3, .inl (.int a3))], [], h11, 0, 0)))
        have lp12 : ∀ m12, m12 ≤ m → ∀ (v12_4 : Int32) (h12 : zH), kOK W_X5_row T T h h12 → G m12 (Pf (fx (B_X5_row_67 q0 a1 a2 a3) (0, []) (v12_4, h12))) (67, [(0, .inl (.ref q0)), (1, .inl (.int a1)), (2, .inl (.int a2)), (3, .inl (.int a3)), (4, .inl (.int v12_4))], [], h12, 0, 0) := by
          intro m12
          induction m12 with
          | zero =>
            intros
            exact k_zero HG
          | succ m12 ih12 =>
            intro le12 v12_4 h12 K12
            have le12 := Nat.le_of_succ_le le12
            have ih12 := ih12 le12
            refine k_fx ?_
            rw [B_X5_row_67]
            refine k_first HG 2 (kb_ge (x := v12_4) (y := (40 : Int32)) ?_ ?_)
            · show G m12 _ (90, [(0, .inl (.ref q0)), (1, .inl (.int a1)), (2, .inl (.int a2)), (3, .inl (.int a3)), (4, .inl (.int v12_4))], [], h12, 0, 0)
              refine k_steps HG 1 (zB_iff.mpr (?_ : G m12 _ (91, [(0, .inl (.ref q0)), (1, .inl (.int a1)), (2, .inl (.int a2)), (3, .inl (.int a3)), (4, .inl (.int v12_4))], [.inl (.int (1 : Int32))], h12, 0, 0)))
              exact k_reti HG rfl rfl (fun e1 e2 => hR _ _ e1 e2 K12)
            · show G m12 _ (74, [(0, .inl (.ref q0)), (1, .inl (.int a1)), (2, .inl (.int a2)), (3, .inl (.int a3)), (4, .inl (.int v12_4))], [], h12, 0, 0)
              refine k_steps HG 1 (zB_iff.mpr (?_ : G m12 _ (75, [(0, .inl (.ref q0)), (1, .inl (.int a1)), (2, .inl (.int a2)), (3, .inl (.int a3)), (4, .inl (.int v12_4))], [.inl (.ref q0)], h12, 0, 0)))
              refine k_getR HG rfl K12 hq_q0 rfl (Nat.le_of_ble_eq_true rfl) rfl rfl (fun t13 => (?_ : G m12 _ (78, [(0, .inl (.ref q0)), (1, .inl (.int a1)), (2, .inl (.int a2)), (3, .inl (.int a3)), (4, .inl (.int v12_4))], [.inl (.ref (hr h12 q0 3))], h12, 0, 0)))
              refine k_steps HG 1 (zB_iff.mpr (?_ : G m12 _ (79, [(0, .inl (.ref q0)), (1, .inl (.int a1)), (2, .inl (.int a2)), (3, .inl (.int a3)), (4, .inl (.int v12_4))], [.inl (.int a1), .inl (.ref (hr h12 q0 3))], h12, 0, 0)))
              refine k_aald HG rfl K12 t13 (fun _ => ⟨rfl, rfl⟩) (fun t14 => (?_ : G m12 _ (80, [(0, .inl (.ref q0)), (1, .inl (.int a1)), (2, .inl (.int a2)), (3, .inl (.int a3)), (4, .inl (.int v12_4))], [.inl (.ref (hr h12 (hr h12 q0 3) a1.toNatClampNeg))], h12, 0, 0)))
              refine k_steps HG 2 (zB_iff.mpr (?_ : G m12 _ (83, [(0, .inl (.ref q0)), (1, .inl (.int a1)), (2, .inl (.int a2)), (3, .inl (.int a3)), (4, .inl (.int v12_4))], [.inl (.long (0 : Int64)), .inl (.int v12_4), .inl (.ref (hr h12 (hr h12 q0 3) a1.toNatClampNeg))], h12, 0, 0)))
              refine k_last HG rfl K12 t14 rfl (fun _ => rfl) rfl (fun h15 K15 => (?_ : G m12 _ (84, [(0, .inl (.ref q0)), (1, .inl (.int a1)), (2, .inl (.int a2)), (3, .inl (.int a3)), (4, .inl (.int v12_4))], [], h15, 0, 0)))
              refine k_steps HG 2 (zB_iff.mpr (?_ : G m12 _ (67, [(4, .inl (.int (v12_4 + (1 : Int32)))), (0, .inl (.ref q0)), (1, .inl (.int a1)), (2, .inl (.int a2)), (3, .inl (.int a3))], [], h15, 0, 0)))
              refine k_ext HG (L' := [(0, .inl (.ref q0)), (1, .inl (.int a1)), (2, .inl (.int a2)), (3, .inl (.int a3)), (4, .inl (.int (v12_4 + (1 : Int32))))]) rfl rfl ⟨rfl, rfl, rfl, rfl, rfl, trivial⟩ ?_
              exact ih12 _ _ K15
        refine k_ext HG (L' := [(0, .inl (.ref q0)), (1, .inl (.int a1)), (2, .inl (.int a2)), (3, .inl (.int a3)), (4, .inl (.int (0 : Int32)))]) rfl rfl ⟨rfl, rfl, rfl, rfl, rfl, trivial⟩ ?_
        exact lp12 m (Nat.le_refl _) _ _ K11
      · show G m _ (36, [(0, .inl (.ref q0)), (1, .inl (.int a1)), (2, .inl (.int a2)), (3, .inl (.int a3))], [], h, 0, 0)
        refine k_steps HG 2 (zB_iff.mpr (?_ : G m _ (39, [(0, .inl (.ref q0)), (1, .inl (.int a1)), (2, .inl (.int a2)), (3, .inl (.int a3))], [.inl (.int (-2 : Int32)), .inl (.ref q0)], h, 0, 0)))
        refine k_cVIH HG (E' := ze_X5_refuse) (Or.inl ⟨rfl, rfl⟩) hsc rfl rfl rfl rfl rfl K rfl (fun hh => x_X5_refuse hsc K.1 hq_q0 hh) (fun y16 K16 => (?_ : G m _ (42, [(0, .inl (.ref q0)), (1, .inl (.int a1)), (2, .inl (.int a2)), (3, .inl (.int a3))], [.inl (.int y16.1)], y16.2, 0, 0)))
        exact k_reti HG rfl rfl (fun e1 e2 => hR _ _ e1 e2 K16)
def W_X5_rule : List (Nat × Nat) := [(5, 10), (30, 1000)]
noncomputable def F_X5_rule (h : zH) (q0 : Nat) (a1 : Int32) : Int32 × zH := (letf (F_X5_in (Int32.toInt64 a1) (2 : Int64) (10 : Int64)) (fun y1 => (if y1 = (0 : Int32) then (letf (F_X5_refuse h q0 (-2 : Int32)) (fun y4 => (y4.1, y4.2))) else (if (0 : Int32) < (hv h q0 17) then (letf (F_X5_refuse h q0 (-5 : Int32)) (fun y3 => (y3.1, y3.2))) else (letf (hput h q0 10 (.inl (.int a1))) (fun h2 => ((hv h q0 10), h2)))))))
theorem x_X5_rule {scr : List zV} {T : List Nat} {h : zH} {q0 : Nat} {a1 : Int32} (hsc : cT scr) (K : hOK kty T h) (hq_q0 : T[q0]? = some 5) (hh : cH h) : xIH scr W_X5_rule T T 218 [.inl (.ref q0), .inl (.int a1)] h (F_X5_rule h q0 a1) := by
  refine xIH_intro (E := ze_X5_rule) hsc rfl (cTb_ok rfl) hh (fun d r h' G HG Pf hR m => ?_)
  have K := kOK_refl (W := W_X5_rule) K
  unfold F_X5_rule
  show G m _ (0, [(0, .inl (.ref q0)), (1, .inl (.int a1))], [], h, 0, 0)
  refine k_steps HG 4 (zB_iff.mpr (?_ : G m _ (8, [(0, .inl (.ref q0)), (1, .inl (.int a1))], [.inl (.long (10 : Int64)), .inl (.long (2 : Int64)), .inl (.long (Int32.toInt64 a1))], h, 0, 0)))
  refine k_cSI HG (E' := ze_X5_in) (Or.inl rfl) hsc rfl rfl rfl rfl (fun hh => x_X5_in hsc hh) (fun y1 => (?_ : G m _ (11, [(0, .inl (.ref q0)), (1, .inl (.int a1))], [.inl (.int y1)], h, 0, 0)))
  refine k_steps HG 1 (kb_ne (x := y1) (y := (0 : Int32)) ?_ ?_)
  · show G m _ (21, [(0, .inl (.ref q0)), (1, .inl (.int a1))], [], h, 0, 0)
    refine k_steps HG 1 (zB_iff.mpr (?_ : G m _ (22, [(0, .inl (.ref q0)), (1, .inl (.int a1))], [.inl (.ref q0)], h, 0, 0)))
    refine k_getI HG rfl K hq_q0 rfl (Nat.le_of_ble_eq_true rfl) rfl (?_ : G m _ (25, [(0, .inl (.ref q0)), (1, .inl (.int a1))], [.inl (.int (hv h q0 17))], h, 0, 0))
    refine k_steps HG 1 (kb_le (x := (hv h q0 17)) (y := (0 : Int32)) ?_ ?_)
    · show G m _ (35, [(0, .inl (.ref q0)), (1, .inl (.int a1))], [], h, 0, 0)
      refine k_steps HG 1 (zB_iff.mpr (?_ : G m _ (36, [(0, .inl (.ref q0)), (1, .inl (.int a1))], [.inl (.ref q0)], h, 0, 0)))
      refine k_getI HG rfl K hq_q0 rfl (Nat.le_of_ble_eq_true rfl) rfl (?_ : G m _ (39, [(0, .inl (.ref q0)), (1, .inl (.int a1))], [.inl (.int (hv h q0 10))], h, 0, 0))
      refine k_steps HG 3 (zB_iff.mpr (?_ : G m _ (42, [(2, .inl (.int (hv h q0 10))), (0, .inl (.ref q0)), (1, .inl (.int a1))], [.inl (.int a1), .inl (.ref q0)], h, 0, 0)))
      refine k_putI HG rfl K hq_q0 rfl rfl rfl (fun h2 K2 => (?_ : G m _ (45, [(2, .inl (.int (hv h q0 10))), (0, .inl (.ref q0)), (1, .inl (.int a1))], [], h2, 0, 0)))
      refine k_steps HG 1 (zB_iff.mpr (?_ : G m _ (46, [(2, .inl (.int (hv h q0 10))), (0, .inl (.ref q0)), (1, .inl (.int a1))], [.inl (.int (hv h q0 10))], h2, 0, 0)))
      exact k_reti HG rfl rfl (fun e1 e2 => hR _ _ e1 e2 K2)
    · show G m _ (28, [(0, .inl (.ref q0)), (1, .inl (.int a1))], [], h, 0, 0)
      refine k_steps HG 2 (zB_iff.mpr (?_ : G m _ (31, [(0, .inl (.ref q0)), (1, .inl (.int a1))], [.inl (.int (-5 : Int32)), .inl (.ref q0)], h, 0, 0)))
      refine k_cVIH HG (E' := ze_X5_refuse) (Or.inl ⟨rfl, rfl⟩) hsc rfl rfl rfl rfl rfl K rfl (fun hh => x_X5_refuse hsc K.1 hq_q0 hh) (fun y3 K3 => (?_ : G m _ (34, [(0, .inl (.ref q0)), (1, .inl (.int a1))], [.inl (.int y3.1)], y3.2, 0, 0)))
      exact k_reti HG rfl rfl (fun e1 e2 => hR _ _ e1 e2 K3)
  · show G m _ (14, [(0, .inl (.ref q0)), (1, .inl (.int a1))], [], h, 0, 0)
    refine k_steps HG 2 (zB_iff.mpr (?_ : G m _ (17, [(0, .inl (.ref q0)), (1, .inl (.int a1))], [.inl (.int (-2 : Int32)), .inl (.ref q0)], h, 0, 0)))
    refine k_cVIH HG (E' := ze_X5_refuse) (Or.inl ⟨rfl, rfl⟩) hsc rfl rfl rfl rfl rfl K rfl (fun hh => x_X5_refuse hsc K.1 hq_q0 hh) (fun y4 K4 => (?_ : G m _ (20, [(0, .inl (.ref q0)), (1, .inl (.int a1))], [.inl (.int y4.1)], y4.2, 0, 0)))
    exact k_reti HG rfl rfl (fun e1 e2 => hR _ _ e1 e2 K4)
def W_X5_says : List (Nat × Nat) := [(30, 1000)]
noncomputable def B_X5_says_139 (h : zH) (c0 : Nat) (c1 : Int32) (c2 : Int32) (c3 : Int32) (s : (Int32 × Int32)) : (Int32 × Int32) ⊕ (Int32 × zH) := (if s.2 < (hv h c0 23) then (Sum.inl ((s.1 + (hv h (hr h (hr h c0 25) s.2.toNatClampNeg) c3.toNatClampNeg)), (s.2 + (1 : Int32)))) else (Sum.inr (s.1, h)))
noncomputable def J_X5_says_j24 (h : zH) (c0 : Nat) (c1 : Int32) (c2 : Int32) : Int32 × zH := (letf (F_X5_refuse h c0 (-2 : Int32)) (fun y7401 => (y7401.1, y7401.2)))
theorem w_X5_says_j24 {scr : List zV} {T0 T : List Nat} {d m : Nat} {r : Option zV} {h' h h0 : zH} {G : Nat → Prop → zS → Prop} {Pf : Int32 × zH → Prop} {c0 : Nat} {c1 : Int32} {c2 : Int32} (HG : G = GL ze_X5_says scr (zEc ze_X5_says) (zEs ze_X5_says) (zD zprog scr d) r h') (hsc : cT scr) (hR : ∀ y hh, some (.inl (.int y)) = r → hh = h' → kOK W_X5_says T0 T h0 hh → Pf (y, hh)) (K : kOK W_X5_says T0 T h0 h) (hq_c0 : T[c0]? = some 5) : G m (Pf (J_X5_says_j24 h c0 c1 c2)) (24, [(0, .inl (.ref c0)), (1, .inl (.int c1)), (2, .inl (.int c2))], [], h, 0, 0) := by
  unfold J_X5_says_j24
  refine k_steps HG 2 (zB_iff.mpr (?_ : G m _ (27, [(0, .inl (.ref c0)), (1, .inl (.int c1)), (2, .inl (.int c2))], [.inl (.int (-2 : Int32)), .inl (.ref c0)], h, 0, 0)))
  refine k_cVIH HG (E' := ze_X5_refuse) (Or.inl ⟨rfl, rfl⟩) hsc rfl rfl rfl rfl rfl K rfl (fun hh => x_X5_refuse hsc K.1 hq_c0 hh) (fun y7401 K7401 => (?_ : G m _ (30, [(0, .inl (.ref c0)), (1, .inl (.int c1)), (2, .inl (.int c2))], [.inl (.int y7401.1)], y7401.2, 0, 0)))
  exact k_reti HG rfl rfl (fun e1 e2 => hR _ _ e1 e2 K7401)
noncomputable def J_X5_says_j69 (h : zH) (c0 : Nat) (c1 : Int32) (c2 : Int32) : Int32 × zH := (letf (F_X5_refuse h c0 (-3 : Int32)) (fun y11901 => (y11901.1, y11901.2)))
theorem w_X5_says_j69 {scr : List zV} {T0 T : List Nat} {d m : Nat} {r : Option zV} {h' h h0 : zH} {G : Nat → Prop → zS → Prop} {Pf : Int32 × zH → Prop} {c0 : Nat} {c1 : Int32} {c2 : Int32} (HG : G = GL ze_X5_says scr (zEc ze_X5_says) (zEs ze_X5_says) (zD zprog scr d) r h') (hsc : cT scr) (hR : ∀ y hh, some (.inl (.int y)) = r → hh = h' → kOK W_X5_says T0 T h0 hh → Pf (y, hh)) (K : kOK W_X5_says T0 T h0 h) (hq_c0 : T[c0]? = some 5) : G m (Pf (J_X5_says_j69 h c0 c1 c2)) (69, [(0, .inl (.ref c0)), (1, .inl (.int c1)), (2, .inl (.int c2))], [], h, 0, 0) := by
  unfold J_X5_says_j69
  refine k_steps HG 2 (zB_iff.mpr (?_ : G m _ (72, [(0, .inl (.ref c0)), (1, .inl (.int c1)), (2, .inl (.int c2))], [.inl (.int (-3 : Int32)), .inl (.ref c0)], h, 0, 0)))
  refine k_cVIH HG (E' := ze_X5_refuse) (Or.inl ⟨rfl, rfl⟩) hsc rfl rfl rfl rfl rfl K rfl (fun hh => x_X5_refuse hsc K.1 hq_c0 hh) (fun y11901 K11901 => (?_ : G m _ (75, [(0, .inl (.ref c0)), (1, .inl (.int c1)), (2, .inl (.int c2))], [.inl (.int y11901.1)], y11901.2, 0, 0)))
  exact k_reti HG rfl rfl (fun e1 e2 => hR _ _ e1 e2 K11901)
noncomputable def J_X5_says_j255 (h : zH) (c0 : Nat) (c1 : Int32) (c2 : Int32) (c3 : Int32) (c4 : Int32) (s0 : Int32) : Int32 × zH := (s0, h)
theorem w_X5_says_j255 {scr : List zV} {T0 T : List Nat} {d m : Nat} {r : Option zV} {h' h h0 : zH} {G : Nat → Prop → zS → Prop} {Pf : Int32 × zH → Prop} {c0 : Nat} {c1 : Int32} {c2 : Int32} {c3 : Int32} {c4 : Int32} {s0 : Int32} (HG : G = GL ze_X5_says scr (zEc ze_X5_says) (zEs ze_X5_says) (zD zprog scr d) r h') (hsc : cT scr) (hR : ∀ y hh, some (.inl (.int y)) = r → hh = h' → kOK W_X5_says T0 T h0 hh → Pf (y, hh)) (K : kOK W_X5_says T0 T h0 h) (hq_c0 : T[c0]? = some 5) : G m (Pf (J_X5_says_j255 h c0 c1 c2 c3 c4 s0)) (255, [(0, .inl (.ref c0)), (1, .inl (.int c1)), (2, .inl (.int c2)), (3, .inl (.int c3)), (4, .inl (.int c4))], [.inl (.int s0)], h, 0, 0) := by
  unfold J_X5_says_j255
  exact k_reti HG rfl rfl (fun e1 e2 => hR _ _ e1 e2 K)
noncomputable def J_X5_says_j186 (h : zH) (c0 : Nat) (c1 : Int32) (c2 : Int32) (c3 : Int32) (c4 : Int32) (s0 : Int32) : Int32 × zH := (s0, h)
theorem w_X5_says_j186 {scr : List zV} {T0 T : List Nat} {d m : Nat} {r : Option zV} {h' h h0 : zH} {G : Nat → Prop → zS → Prop} {Pf : Int32 × zH → Prop} {c0 : Nat} {c1 : Int32} {c2 : Int32} {c3 : Int32} {c4 : Int32} {s0 : Int32} (HG : G = GL ze_X5_says scr (zEc ze_X5_says) (zEs ze_X5_says) (zD zprog scr d) r h') (hsc : cT scr) (hR : ∀ y hh, some (.inl (.int y)) = r → hh = h' → kOK W_X5_says T0 T h0 hh → Pf (y, hh)) (K : kOK W_X5_says T0 T h0 h) (hq_c0 : T[c0]? = some 5) : G m (Pf (J_X5_says_j186 h c0 c1 c2 c3 c4 s0)) (186, [(0, .inl (.ref c0)), (1, .inl (.int c1)), (2, .inl (.int c2)), (3, .inl (.int c3)), (4, .inl (.int c4))], [.inl (.int s0)], h, 0, 0) := by
  unfold J_X5_says_j186
  exact k_reti HG rfl rfl (fun e1 e2 => hR _ _ e1 e2 K)
noncomputable def J_X5_says_j230 (h : zH) (c0 : Nat) (c1 : Int32) (c2 : Int32) (c3 : Int32) (c4 : Int32) (s0 : Int32) : Int32 × zH := (s0, h)
theorem w_X5_says_j230 {scr : List zV} {T0 T : List Nat} {d m : Nat} {r : Option zV} {h' h h0 : zH} {G : Nat → Prop → zS → Prop} {Pf : Int32 × zH → Prop} {c0 : Nat} {c1 : Int32} {c2 : Int32} {c3 : Int32} {c4 : Int32} {s0 : Int32} (HG : G = GL ze_X5_says scr (zEc ze_X5_says) (zEs ze_X5_says) (zD zprog scr d) r h') (hsc : cT scr) (hR : ∀ y hh, some (.inl (.int y)) = r → hh = h' → kOK W_X5_says T0 T h0 hh → Pf (y, hh)) (K : kOK W_X5_says T0 T h0 h) (hq_c0 : T[c0]? = some 5) : G m (Pf (J_X5_says_j230 h c0 c1 c2 c3 c4 s0)) (230, [(0, .inl (.ref c0)), (1, .inl (.int c1)), (2, .inl (.int c2)), (3, .inl (.int c3)), (4, .inl (.int c4))], [.inl (.int s0)], h, 0, 0) := by
  unfold J_X5_says_j230
  exact k_reti HG rfl rfl (fun e1 e2 => hR _ _ e1 e2 K)
noncomputable def J_X5_says_j76 (h : zH) (c0 : Nat) (c1 : Int32) (c2 : Int32) : Int32 × zH := (if (hv h (hr h c0 0) c1.toNatClampNeg) = (0 : Int32) then (letf (F_X5_refuse h c0 (-4 : Int32)) (fun y12613 => (y12613.1, y12613.2))) else (if c2 = (0 : Int32) then (fx (B_X5_says_139 h c0 c1 c2 (hv h (hr h c0 5) c1.toNatClampNeg)) (0, []) ((0 : Int32), (0 : Int32))) else (if c2 = (1 : Int32) then (if (hv h (hr h c0 22) (hv h (hr h c0 5) c1.toNatClampNeg).toNatClampNeg) = (-1 : Int32) then (J_X5_says_j186 h c0 c1 c2 (hv h (hr h c0 5) c1.toNatClampNeg) (0 : Int32) (1 : Int32)) else (J_X5_says_j186 h c0 c1 c2 (hv h (hr h c0 5) c1.toNatClampNeg) (0 : Int32) (0 : Int32))) else (if c2 = (2 : Int32) then ((hv h (hr h c0 21) (hv h (hr h c0 5) c1.toNatClampNeg).toNatClampNeg), h) else (if c2 = (3 : Int32) then (letf (F_X5_standing h c0) (fun y12610 => (letf (F_X5_brought h c0 (hv h (hr h c0 5) c1.toNatClampNeg) y12610) (fun y12611 => (y12611, h))))) else (if c2 = (4 : Int32) then (if (0 : Int32) < (((2 : Int32) * (hv h (hr h c0 20) (hv h (hr h c0 5) c1.toNatClampNeg).toNatClampNeg)) - (hv h c0 13)) then (J_X5_says_j230 h c0 c1 c2 (hv h (hr h c0 5) c1.toNatClampNeg) (((2 : Int32) * (hv h (hr h c0 20) (hv h (hr h c0 5) c1.toNatClampNeg).toNatClampNeg)) - (hv h c0 13)) (((2 : Int32) * (hv h (hr h c0 20) (hv h (hr h c0 5) c1.toNatClampNeg).toNatClampNeg)) - (hv h c0 13))) else (J_X5_says_j230 h c0 c1 c2 (hv h (hr h c0 5) c1.toNatClampNeg) (((2 : Int32) * (hv h (hr h c0 20) (hv h (hr h c0 5) c1.toNatClampNeg).toNatClampNeg)) - (hv h c0 13)) (0 : Int32))) else (letf (F_X5_inside h c0) (fun y12604 => (if (0 : Int32) < (y12604 - ((hv h c0 9) / (2 : Int32))) then (J_X5_says_j255 h c0 c1 c2 (hv h (hr h c0 5) c1.toNatClampNeg) (y12604 - ((hv h c0 9) / (2 : Int32))) (y12604 - ((hv h c0 9) / (2 : Int32)))) else (J_X5_says_j255 h c0 c1 c2 (hv h (hr h c0 5) c1.toNatClampNeg) (y12604 - ((hv h c0 9) / (2 : Int32))) (0 : Int32)))))))))))
theorem w_X5_says_j76 {scr : List zV} {T0 T : List Nat} {d m : Nat} {r : Option zV} {h' h h0 : zH} {G : Nat → Prop → zS → Prop} {Pf : Int32 × zH → Prop} {c0 : Nat} {c1 : Int32} {c2 : Int32} (HG : G = GL ze_X5_says scr (zEc ze_X5_says) (zEs ze_X5_says) (zD zprog scr d) r h') (hsc : cT scr) (hR : ∀ y hh, some (.inl (.int y)) = r → hh = h' → kOK W_X5_says T0 T h0 hh → Pf (y, hh)) (K : kOK W_X5_says T0 T h0 h) (hq_c0 : T[c0]? = some 5) : G m (Pf (J_X5_says_j76 h c0 c1 c2)) (76, [(0, .inl (.ref c0)), (1, .inl (.int c1)), (2, .inl (.int c2))], [], h, 0, 0) := by
  unfold J_X5_says_j76
  refine k_steps HG 1 (zB_iff.mpr (?_ : G m _ (77, [(0, .inl (.ref c0)), (1, .inl (.int c1)), (2, .inl (.int c2))], [.inl (.ref c0)], h, 0, 0)))
  refine k_getR HG rfl K hq_c0 rfl (Nat.le_of_ble_eq_true rfl) rfl rfl (fun t12601 => (?_ : G m _ (80, [(0, .inl (.ref c0)), (1, .inl (.int c1)), (2, .inl (.int c2))], [.inl (.ref (hr h c0 0))], h, 0, 0)))
  refine k_steps HG 1 (zB_iff.mpr (?_ : G m _ (81, [(0, .inl (.ref c0)), (1, .inl (.int c1)), (2, .inl (.int c2))], [.inl (.int c1), .inl (.ref (hr h c0 0))], h, 0, 0)))
  refine k_iald HG rfl K t12601 rfl (fun _ => rfl) (?_ : G m _ (82, [(0, .inl (.ref c0)), (1, .inl (.int c1)), (2, .inl (.int c2))], [.inl (.int (hv h (hr h c0 0) c1.toNatClampNeg))], h, 0, 0))
  refine k_steps HG 1 (kb_ne (x := (hv h (hr h c0 0) c1.toNatClampNeg)) (y := (0 : Int32)) ?_ ?_)
  · show G m _ (92, [(0, .inl (.ref c0)), (1, .inl (.int c1)), (2, .inl (.int c2))], [], h, 0, 0)
    refine k_steps HG 1 (zB_iff.mpr (?_ : G m _ (93, [(0, .inl (.ref c0)), (1, .inl (.int c1)), (2, .inl (.int c2))], [.inl (.ref c0)], h, 0, 0)))
    refine k_getR HG rfl K hq_c0 rfl (Nat.le_of_ble_eq_true rfl) rfl rfl (fun t12602 => (?_ : G m _ (96, [(0, .inl (.ref c0)), (1, .inl (.int c1)), (2, .inl (.int c2))], [.inl (.ref (hr h c0 5))], h, 0, 0)))
    refine k_steps HG 1 (zB_iff.mpr (?_ : G m _ (97, [(0, .inl (.ref c0)), (1, .inl (.int c1)), (2, .inl (.int c2))], [.inl (.int c1), .inl (.ref (hr h c0 5))], h, 0, 0)))
    refine k_iald HG rfl K t12602 rfl (fun _ => rfl) (?_ : G m _ (98, [(0, .inl (.ref c0)), (1, .inl (.int c1)), (2, .inl (.int c2))], [.inl (.int (hv h (hr h c0 5) c1.toNatClampNeg))], h, 0, 0))
    refine k_steps HG 4 (zB_iff.mpr (?_ : G m _ (103, [(4, .inl (.int (0 : Int32))), (3, .inl (.int (hv h (hr h c0 5) c1.toNatClampNeg))), (0, .inl (.ref c0)), (1, .inl (.int c1)), (2, .inl (.int c2))], [.inl (.int c2)], h, 0, 0)))
    refine g_tsw (k_walk HG) (d := 128) (lo := 0) (hi := 4) (offs := #[33, 68, 84, 91, 101]) rfl (x := c2) rfl (fun hs12603 => zB_iff.mpr ?_) (And.intro (fun hs12603 => zB_iff.mpr ?_) (And.intro (fun hs12603 => zB_iff.mpr ?_) (And.intro (fun hs12603 => zB_iff.mpr ?_) (And.intro (fun hs12603 => zB_iff.mpr ?_) (And.intro (fun hs12603 => zB_iff.mpr ?_) trivial)))))
    · show G m _ (231, [(4, .inl (.int (0 : Int32))), (3, .inl (.int (hv h (hr h c0 5) c1.toNatClampNeg))), (0, .inl (.ref c0)), (1, .inl (.int c1)), (2, .inl (.int c2))], [], h, 0, 0)
      refine k_neg (k_swn (lo := 0) (hi := 4) hs12603 (by decide)) ?_
      refine k_neg (k_swn (lo := 0) (hi := 4) hs12603 (by decide)) ?_
      refine k_neg (k_swn (lo := 0) (hi := 4) hs12603 (by decide)) ?_
      refine k_neg (k_swn (lo := 0) (hi := 4) hs12603 (by decide)) ?_
      refine k_neg (k_swn (lo := 0) (hi := 4) hs12603 (by decide)) ?_
      refine k_steps HG 1 (zB_iff.mpr (?_ : G m _ (232, [(4, .inl (.int (0 : Int32))), (3, .inl (.int (hv h (hr h c0 5) c1.toNatClampNeg))), (0, .inl (.ref c0)), (1, .inl (.int c1)), (2, .inl (.int c2))], [.inl (.ref c0)], h, 0, 0)))
      refine k_cVI HG (E' := ze_X5_inside) (Or.inl ⟨rfl, rfl⟩) hsc rfl rfl rfl rfl rfl (fun hh => x_X5_inside hsc K.1 hq_c0 hh) (fun y12604 => (?_ : G m _ (235, [(4, .inl (.int (0 : Int32))), (3, .inl (.int (hv h (hr h c0 5) c1.toNatClampNeg))), (0, .inl (.ref c0)), (1, .inl (.int c1)), (2, .inl (.int c2))], [.inl (.int y12604)], h, 0, 0)))
      refine k_steps HG 1 (zB_iff.mpr (?_ : G m _ (236, [(4, .inl (.int (0 : Int32))), (3, .inl (.int (hv h (hr h c0 5) c1.toNatClampNeg))), (0, .inl (.ref c0)), (1, .inl (.int c1)), (2, .inl (.int c2))], [.inl (.ref c0), .inl (.int y12604)], h, 0, 0)))
      refine k_getI HG rfl K hq_c0 rfl (Nat.le_of_ble_eq_true rfl) rfl (?_ : G m _ (239, [(4, .inl (.int (0 : Int32))), (3, .inl (.int (hv h (hr h c0 5) c1.toNatClampNeg))), (0, .inl (.ref c0)), (1, .inl (.int c1)), (2, .inl (.int c2))], [.inl (.int (hv h c0 9)), .inl (.int y12604)], h, 0, 0))
      refine k_steps HG 1 (zB_iff.mpr (?_ : G m _ (240, [(4, .inl (.int (0 : Int32))), (3, .inl (.int (hv h (hr h c0 5) c1.toNatClampNeg))), (0, .inl (.ref c0)), (1, .inl (.int c1)), (2, .inl (.int c2))], [.inl (.int (2 : Int32)), .inl (.int (hv h c0 9)), .inl (.int y12604)], h, 0, 0)))
      refine k_div HG rfl (?_ : G m _ (241, [(4, .inl (.int (0 : Int32))), (3, .inl (.int (hv h (hr h c0 5) c1.toNatClampNeg))), (0, .inl (.ref c0)), (1, .inl (.int c1)), (2, .inl (.int c2))], [.inl (.int ((hv h c0 9) / (2 : Int32))), .inl (.int y12604)], h, 0, 0))
      refine k_steps HG 4 (kb_le (x := (y12604 - ((hv h c0 9) / (2 : Int32)))) (y := (0 : Int32)) ?_ ?_)
      · show G m _ (254, [(4, .inl (.int (y12604 - ((hv h c0 9) / (2 : Int32))))), (3, .inl (.int (hv h (hr h c0 5) c1.toNatClampNeg))), (0, .inl (.ref c0)), (1, .inl (.int c1)), (2, .inl (.int c2))], [], h, 0, 0)
        refine k_steps HG 1 (zB_iff.mpr (?_ : G m _ (255, [(4, .inl (.int (y12604 - ((hv h c0 9) / (2 : Int32))))), (3, .inl (.int (hv h (hr h c0 5) c1.toNatClampNeg))), (0, .inl (.ref c0)), (1, .inl (.int c1)), (2, .inl (.int c2))], [.inl (.int (0 : Int32))], h, 0, 0)))
        refine k_ext HG (L' := [(0, .inl (.ref c0)), (1, .inl (.int c1)), (2, .inl (.int c2)), (3, .inl (.int (hv h (hr h c0 5) c1.toNatClampNeg))), (4, .inl (.int (y12604 - ((hv h c0 9) / (2 : Int32)))))]) rfl rfl ⟨rfl, rfl, rfl, rfl, rfl, trivial⟩ ?_
        exact w_X5_says_j255 HG hsc hR K hq_c0
      · show G m _ (249, [(4, .inl (.int (y12604 - ((hv h c0 9) / (2 : Int32))))), (3, .inl (.int (hv h (hr h c0 5) c1.toNatClampNeg))), (0, .inl (.ref c0)), (1, .inl (.int c1)), (2, .inl (.int c2))], [], h, 0, 0)
        refine k_steps HG 2 (zB_iff.mpr (?_ : G m _ (255, [(4, .inl (.int (y12604 - ((hv h c0 9) / (2 : Int32))))), (3, .inl (.int (hv h (hr h c0 5) c1.toNatClampNeg))), (0, .inl (.ref c0)), (1, .inl (.int c1)), (2, .inl (.int c2))], [.inl (.int (y12604 - ((hv h c0 9) / (2 : Int32))))], h, 0, 0)))
        refine k_ext HG (L' := [(0, .inl (.ref c0)), (1, .inl (.int c1)), (2, .inl (.int c2)), (3, .inl (.int (hv h (hr h c0 5) c1.toNatClampNeg))), (4, .inl (.int (y12604 - ((hv h c0 9) / (2 : Int32)))))]) rfl rfl ⟨rfl, rfl, rfl, rfl, rfl, trivial⟩ ?_
        exact w_X5_says_j255 HG hsc hR K hq_c0
    · show G m _ (136, [(4, .inl (.int (0 : Int32))), (3, .inl (.int (hv h (hr h c0 5) c1.toNatClampNeg))), (0, .inl (.ref c0)), (1, .inl (.int c1)), (2, .inl (.int c2))], [], h, 0, 0)
      have hs12603 : c2 = (0 : Int32) := k_sw hs12603 rfl
      refine k_pos hs12603 ?_
      refine k_steps HG 2 (zB_iff.mpr (?_ : G m _ (139, [(5, .inl (.int (0 : Int32))), (4, .inl (.int (0 : Int32))), (3, .inl (.int (hv h (hr h c0 5) c1.toNatClampNeg))), (0, .inl (.ref c0)), (1, .inl (.int c1)), (2, .inl (.int c2))], [], h, 0, 0)))
      have lp12605 : ∀ m12605, m12605 ≤ m → ∀ (v12605_4 : Int32) (v12605_5 : Int32), G m12605 (Pf (fx (B_X5_says_139 h c0 c1 c2 (hv h (hr h c0 5) c1.toNatClampNeg)) (0, []) (v12605_4, v12605_5))) (139, [(0, .inl (.ref c0)), (1, .inl (.int c1)), (2, .inl (.int c2)), (3, .inl (.int (hv h (hr h c0 5) c1.toNatClampNeg))), (4, .inl (.int v12605_4)), (5, .inl (.int v12605_5))], [], h, 0, 0) := by
        intro m12605
        induction m12605 with
        | zero =>
          intros
          exact k_zero HG
        | succ m12605 ih12605 =>
          intro le12605 v12605_4 v12605_5
          have le12605 := Nat.le_of_succ_le le12605
          have ih12605 := ih12605 le12605
          refine k_fx ?_
          rw [B_X5_says_139]
          refine k_first HG 1 (zB_iff.mpr (?_ : G m12605 _ (142, [(0, .inl (.ref c0)), (1, .inl (.int c1)), (2, .inl (.int c2)), (3, .inl (.int (hv h (hr h c0 5) c1.toNatClampNeg))), (4, .inl (.int v12605_4)), (5, .inl (.int v12605_5))], [.inl (.ref c0), .inl (.int v12605_5)], h, 0, 0)))
          refine k_getI HG rfl K hq_c0 rfl (Nat.le_of_ble_eq_true rfl) rfl (?_ : G m12605 _ (145, [(0, .inl (.ref c0)), (1, .inl (.int c1)), (2, .inl (.int c2)), (3, .inl (.int (hv h (hr h c0 5) c1.toNatClampNeg))), (4, .inl (.int v12605_4)), (5, .inl (.int v12605_5))], [.inl (.int (hv h c0 23)), .inl (.int v12605_5)], h, 0, 0))
          refine k_steps HG 1 (kb_ge (x := v12605_5) (y := (hv h c0 23)) ?_ ?_)
          · show G m12605 _ (168, [(0, .inl (.ref c0)), (1, .inl (.int c1)), (2, .inl (.int c2)), (3, .inl (.int (hv h (hr h c0 5) c1.toNatClampNeg))), (4, .inl (.int v12605_4)), (5, .inl (.int v12605_5))], [], h, 0, 0)
            refine k_steps HG 1 (zB_iff.mpr (?_ : G m12605 _ (170, [(0, .inl (.ref c0)), (1, .inl (.int c1)), (2, .inl (.int c2)), (3, .inl (.int (hv h (hr h c0 5) c1.toNatClampNeg))), (4, .inl (.int v12605_4)), (5, .inl (.int v12605_5))], [.inl (.int v12605_4)], h, 0, 0)))
            exact k_reti HG rfl rfl (fun e1 e2 => hR _ _ e1 e2 K)
          · show G m12605 _ (148, [(0, .inl (.ref c0)), (1, .inl (.int c1)), (2, .inl (.int c2)), (3, .inl (.int (hv h (hr h c0 5) c1.toNatClampNeg))), (4, .inl (.int v12605_4)), (5, .inl (.int v12605_5))], [], h, 0, 0)
            refine k_steps HG 2 (zB_iff.mpr (?_ : G m12605 _ (151, [(0, .inl (.ref c0)), (1, .inl (.int c1)), (2, .inl (.int c2)), (3, .inl (.int (hv h (hr h c0 5) c1.toNatClampNeg))), (4, .inl (.int v12605_4)), (5, .inl (.int v12605_5))], [.inl (.ref c0), .inl (.int v12605_4)], h, 0, 0)))
            refine k_getR HG rfl K hq_c0 rfl (Nat.le_of_ble_eq_true rfl) rfl rfl (fun t12606 => (?_ : G m12605 _ (154, [(0, .inl (.ref c0)), (1, .inl (.int c1)), (2, .inl (.int c2)), (3, .inl (.int (hv h (hr h c0 5) c1.toNatClampNeg))), (4, .inl (.int v12605_4)), (5, .inl (.int v12605_5))], [.inl (.ref (hr h c0 25)), .inl (.int v12605_4)], h, 0, 0)))
            refine k_steps HG 1 (zB_iff.mpr (?_ : G m12605 _ (156, [(0, .inl (.ref c0)), (1, .inl (.int c1)), (2, .inl (.int c2)), (3, .inl (.int (hv h (hr h c0 5) c1.toNatClampNeg))), (4, .inl (.int v12605_4)), (5, .inl (.int v12605_5))], [.inl (.int v12605_5), .inl (.ref (hr h c0 25)), .inl (.int v12605_4)], h, 0, 0)))
            refine k_aald HG rfl K t12606 (fun _ => ⟨rfl, rfl⟩) (fun t12607 => (?_ : G m12605 _ (157, [(0, .inl (.ref c0)), (1, .inl (.int c1)), (2, .inl (.int c2)), (3, .inl (.int (hv h (hr h c0 5) c1.toNatClampNeg))), (4, .inl (.int v12605_4)), (5, .inl (.int v12605_5))], [.inl (.ref (hr h (hr h c0 25) v12605_5.toNatClampNeg)), .inl (.int v12605_4)], h, 0, 0)))
            refine k_steps HG 1 (zB_iff.mpr (?_ : G m12605 _ (158, [(0, .inl (.ref c0)), (1, .inl (.int c1)), (2, .inl (.int c2)), (3, .inl (.int (hv h (hr h c0 5) c1.toNatClampNeg))), (4, .inl (.int v12605_4)), (5, .inl (.int v12605_5))], [.inl (.int (hv h (hr h c0 5) c1.toNatClampNeg)), .inl (.ref (hr h (hr h c0 25) v12605_5.toNatClampNeg)), .inl (.int v12605_4)], h, 0, 0)))
            refine k_iald HG rfl K t12607 rfl (fun _ => rfl) (?_ : G m12605 _ (159, [(0, .inl (.ref c0)), (1, .inl (.int c1)), (2, .inl (.int c2)), (3, .inl (.int (hv h (hr h c0 5) c1.toNatClampNeg))), (4, .inl (.int v12605_4)), (5, .inl (.int v12605_5))], [.inl (.int (hv h (hr h (hr h c0 25) v12605_5.toNatClampNeg) (hv h (hr h c0 5) c1.toNatClampNeg).toNatClampNeg)), .inl (.int v12605_4)], h, 0, 0))
            refine k_steps HG 4 (zB_iff.mpr (?_ : G m12605 _ (139, [(5, .inl (.int (v12605_5 + (1 : Int32)))), (4, .inl (.int (v12605_4 + (hv h (hr h (hr h c0 25) v12605_5.toNatClampNeg) (hv h (hr h c0 5) c1.toNatClampNeg).toNatClampNeg)))), (0, .inl (.ref c0)), (1, .inl (.int c1)), (2, .inl (.int c2)), (3, .inl (.int (hv h (hr h c0 5) c1.toNatClampNeg)))], [], h, 0, 0)))
            refine k_ext HG (L' := [(0, .inl (.ref c0)), (1, .inl (.int c1)), (2, .inl (.int c2)), (3, .inl (.int (hv h (hr h c0 5) c1.toNatClampNeg))), (4, .inl (.int (v12605_4 + (hv h (hr h (hr h c0 25) v12605_5.toNatClampNeg) (hv h (hr h c0 5) c1.toNatClampNeg).toNatClampNeg)))), (5, .inl (.int (v12605_5 + (1 : Int32))))]) rfl rfl ⟨rfl, rfl, rfl, rfl, rfl, rfl, trivial⟩ ?_
            exact ih12605 _ _
      refine k_ext HG (L' := [(0, .inl (.ref c0)), (1, .inl (.int c1)), (2, .inl (.int c2)), (3, .inl (.int (hv h (hr h c0 5) c1.toNatClampNeg))), (4, .inl (.int (0 : Int32))), (5, .inl (.int (0 : Int32)))]) rfl rfl ⟨rfl, rfl, rfl, rfl, rfl, rfl, trivial⟩ ?_
      exact lp12605 m (Nat.le_refl _) _ _
    · show G m _ (171, [(4, .inl (.int (0 : Int32))), (3, .inl (.int (hv h (hr h c0 5) c1.toNatClampNeg))), (0, .inl (.ref c0)), (1, .inl (.int c1)), (2, .inl (.int c2))], [], h, 0, 0)
      have hs12603 : c2 = (1 : Int32) := k_sw hs12603 rfl
      refine k_neg (by rw [hs12603]; decide) ?_
      refine k_pos hs12603 ?_
      refine k_steps HG 1 (zB_iff.mpr (?_ : G m _ (172, [(4, .inl (.int (0 : Int32))), (3, .inl (.int (hv h (hr h c0 5) c1.toNatClampNeg))), (0, .inl (.ref c0)), (1, .inl (.int c1)), (2, .inl (.int c2))], [.inl (.ref c0)], h, 0, 0)))
      refine k_getR HG rfl K hq_c0 rfl (Nat.le_of_ble_eq_true rfl) rfl rfl (fun t12608 => (?_ : G m _ (175, [(4, .inl (.int (0 : Int32))), (3, .inl (.int (hv h (hr h c0 5) c1.toNatClampNeg))), (0, .inl (.ref c0)), (1, .inl (.int c1)), (2, .inl (.int c2))], [.inl (.ref (hr h c0 22))], h, 0, 0)))
      refine k_steps HG 1 (zB_iff.mpr (?_ : G m _ (176, [(4, .inl (.int (0 : Int32))), (3, .inl (.int (hv h (hr h c0 5) c1.toNatClampNeg))), (0, .inl (.ref c0)), (1, .inl (.int c1)), (2, .inl (.int c2))], [.inl (.int (hv h (hr h c0 5) c1.toNatClampNeg)), .inl (.ref (hr h c0 22))], h, 0, 0)))
      refine k_iald HG rfl K t12608 rfl (fun _ => rfl) (?_ : G m _ (177, [(4, .inl (.int (0 : Int32))), (3, .inl (.int (hv h (hr h c0 5) c1.toNatClampNeg))), (0, .inl (.ref c0)), (1, .inl (.int c1)), (2, .inl (.int c2))], [.inl (.int (hv h (hr h c0 22) (hv h (hr h c0 5) c1.toNatClampNeg).toNatClampNeg))], h, 0, 0))
      refine k_steps HG 2 (kb_ne (x := (hv h (hr h c0 22) (hv h (hr h c0 5) c1.toNatClampNeg).toNatClampNeg)) (y := (-1 : Int32)) ?_ ?_)
      · show G m _ (185, [(4, .inl (.int (0 : Int32))), (3, .inl (.int (hv h (hr h c0 5) c1.toNatClampNeg))), (0, .inl (.ref c0)), (1, .inl (.int c1)), (2, .inl (.int c2))], [], h, 0, 0)
        refine k_steps HG 1 (zB_iff.mpr (?_ : G m _ (186, [(4, .inl (.int (0 : Int32))), (3, .inl (.int (hv h (hr h c0 5) c1.toNatClampNeg))), (0, .inl (.ref c0)), (1, .inl (.int c1)), (2, .inl (.int c2))], [.inl (.int (0 : Int32))], h, 0, 0)))
        refine k_ext HG (L' := [(0, .inl (.ref c0)), (1, .inl (.int c1)), (2, .inl (.int c2)), (3, .inl (.int (hv h (hr h c0 5) c1.toNatClampNeg))), (4, .inl (.int (0 : Int32)))]) rfl rfl ⟨rfl, rfl, rfl, rfl, rfl, trivial⟩ ?_
        exact w_X5_says_j186 HG hsc hR K hq_c0
      · show G m _ (181, [(4, .inl (.int (0 : Int32))), (3, .inl (.int (hv h (hr h c0 5) c1.toNatClampNeg))), (0, .inl (.ref c0)), (1, .inl (.int c1)), (2, .inl (.int c2))], [], h, 0, 0)
        refine k_steps HG 2 (zB_iff.mpr (?_ : G m _ (186, [(4, .inl (.int (0 : Int32))), (3, .inl (.int (hv h (hr h c0 5) c1.toNatClampNeg))), (0, .inl (.ref c0)), (1, .inl (.int c1)), (2, .inl (.int c2))], [.inl (.int (1 : Int32))], h, 0, 0)))
        refine k_ext HG (L' := [(0, .inl (.ref c0)), (1, .inl (.int c1)), (2, .inl (.int c2)), (3, .inl (.int (hv h (hr h c0 5) c1.toNatClampNeg))), (4, .inl (.int (0 : Int32)))]) rfl rfl ⟨rfl, rfl, rfl, rfl, rfl, trivial⟩ ?_
        exact w_X5_says_j186 HG hsc hR K hq_c0
    · show G m _ (187, [(4, .inl (.int (0 : Int32))), (3, .inl (.int (hv h (hr h c0 5) c1.toNatClampNeg))), (0, .inl (.ref c0)), (1, .inl (.int c1)), (2, .inl (.int c2))], [], h, 0, 0)
      have hs12603 : c2 = (2 : Int32) := k_sw hs12603 rfl
      refine k_neg (by rw [hs12603]; decide) ?_
      refine k_neg (by rw [hs12603]; decide) ?_
      refine k_pos hs12603 ?_
      refine k_steps HG 1 (zB_iff.mpr (?_ : G m _ (188, [(4, .inl (.int (0 : Int32))), (3, .inl (.int (hv h (hr h c0 5) c1.toNatClampNeg))), (0, .inl (.ref c0)), (1, .inl (.int c1)), (2, .inl (.int c2))], [.inl (.ref c0)], h, 0, 0)))
      refine k_getR HG rfl K hq_c0 rfl (Nat.le_of_ble_eq_true rfl) rfl rfl (fun t12609 => (?_ : G m _ (191, [(4, .inl (.int (0 : Int32))), (3, .inl (.int (hv h (hr h c0 5) c1.toNatClampNeg))), (0, .inl (.ref c0)), (1, .inl (.int c1)), (2, .inl (.int c2))], [.inl (.ref (hr h c0 21))], h, 0, 0)))
      refine k_steps HG 1 (zB_iff.mpr (?_ : G m _ (192, [(4, .inl (.int (0 : Int32))), (3, .inl (.int (hv h (hr h c0 5) c1.toNatClampNeg))), (0, .inl (.ref c0)), (1, .inl (.int c1)), (2, .inl (.int c2))], [.inl (.int (hv h (hr h c0 5) c1.toNatClampNeg)), .inl (.ref (hr h c0 21))], h, 0, 0)))
      refine k_iald HG rfl K t12609 rfl (fun _ => rfl) (?_ : G m _ (193, [(4, .inl (.int (0 : Int32))), (3, .inl (.int (hv h (hr h c0 5) c1.toNatClampNeg))), (0, .inl (.ref c0)), (1, .inl (.int c1)), (2, .inl (.int c2))], [.inl (.int (hv h (hr h c0 21) (hv h (hr h c0 5) c1.toNatClampNeg).toNatClampNeg))], h, 0, 0))
      exact k_reti HG rfl rfl (fun e1 e2 => hR _ _ e1 e2 K)
    · show G m _ (194, [(4, .inl (.int (0 : Int32))), (3, .inl (.int (hv h (hr h c0 5) c1.toNatClampNeg))), (0, .inl (.ref c0)), (1, .inl (.int c1)), (2, .inl (.int c2))], [], h, 0, 0)
      have hs12603 : c2 = (3 : Int32) := k_sw hs12603 rfl
      refine k_neg (by rw [hs12603]; decide) ?_
      refine k_neg (by rw [hs12603]; decide) ?_
      refine k_neg (by rw [hs12603]; decide) ?_
      refine k_pos hs12603 ?_
      refine k_steps HG 3 (zB_iff.mpr (?_ : G m _ (197, [(4, .inl (.int (0 : Int32))), (3, .inl (.int (hv h (hr h c0 5) c1.toNatClampNeg))), (0, .inl (.ref c0)), (1, .inl (.int c1)), (2, .inl (.int c2))], [.inl (.ref c0), .inl (.int (hv h (hr h c0 5) c1.toNatClampNeg)), .inl (.ref c0)], h, 0, 0)))
      refine k_cVI HG (E' := ze_X5_standing) (Or.inl ⟨rfl, rfl⟩) hsc rfl rfl rfl rfl rfl (fun hh => x_X5_standing hsc K.1 hq_c0 hh) (fun y12610 => (?_ : G m _ (200, [(4, .inl (.int (0 : Int32))), (3, .inl (.int (hv h (hr h c0 5) c1.toNatClampNeg))), (0, .inl (.ref c0)), (1, .inl (.int c1)), (2, .inl (.int c2))], [.inl (.int y12610), .inl (.int (hv h (hr h c0 5) c1.toNatClampNeg)), .inl (.ref c0)], h, 0, 0)))
      refine k_cVI HG (E' := ze_X5_brought) (Or.inl ⟨rfl, rfl⟩) hsc rfl rfl rfl rfl rfl (fun hh => x_X5_brought hsc K.1 hq_c0 hh) (fun y12611 => (?_ : G m _ (203, [(4, .inl (.int (0 : Int32))), (3, .inl (.int (hv h (hr h c0 5) c1.toNatClampNeg))), (0, .inl (.ref c0)), (1, .inl (.int c1)), (2, .inl (.int c2))], [.inl (.int y12611)], h, 0, 0)))
      exact k_reti HG rfl rfl (fun e1 e2 => hR _ _ e1 e2 K)
    · show G m _ (204, [(4, .inl (.int (0 : Int32))), (3, .inl (.int (hv h (hr h c0 5) c1.toNatClampNeg))), (0, .inl (.ref c0)), (1, .inl (.int c1)), (2, .inl (.int c2))], [], h, 0, 0)
      have hs12603 : c2 = (4 : Int32) := k_sw hs12603 rfl
      refine k_neg (by rw [hs12603]; decide) ?_
      refine k_neg (by rw [hs12603]; decide) ?_
      refine k_neg (by rw [hs12603]; decide) ?_
      refine k_neg (by rw [hs12603]; decide) ?_
      refine k_pos hs12603 ?_
      refine k_steps HG 2 (zB_iff.mpr (?_ : G m _ (206, [(4, .inl (.int (0 : Int32))), (3, .inl (.int (hv h (hr h c0 5) c1.toNatClampNeg))), (0, .inl (.ref c0)), (1, .inl (.int c1)), (2, .inl (.int c2))], [.inl (.ref c0), .inl (.int (2 : Int32))], h, 0, 0)))
      refine k_getR HG rfl K hq_c0 rfl (Nat.le_of_ble_eq_true rfl) rfl rfl (fun t12612 => (?_ : G m _ (209, [(4, .inl (.int (0 : Int32))), (3, .inl (.int (hv h (hr h c0 5) c1.toNatClampNeg))), (0, .inl (.ref c0)), (1, .inl (.int c1)), (2, .inl (.int c2))], [.inl (.ref (hr h c0 20)), .inl (.int (2 : Int32))], h, 0, 0)))
      refine k_steps HG 1 (zB_iff.mpr (?_ : G m _ (210, [(4, .inl (.int (0 : Int32))), (3, .inl (.int (hv h (hr h c0 5) c1.toNatClampNeg))), (0, .inl (.ref c0)), (1, .inl (.int c1)), (2, .inl (.int c2))], [.inl (.int (hv h (hr h c0 5) c1.toNatClampNeg)), .inl (.ref (hr h c0 20)), .inl (.int (2 : Int32))], h, 0, 0)))
      refine k_iald HG rfl K t12612 rfl (fun _ => rfl) (?_ : G m _ (211, [(4, .inl (.int (0 : Int32))), (3, .inl (.int (hv h (hr h c0 5) c1.toNatClampNeg))), (0, .inl (.ref c0)), (1, .inl (.int c1)), (2, .inl (.int c2))], [.inl (.int (hv h (hr h c0 20) (hv h (hr h c0 5) c1.toNatClampNeg).toNatClampNeg)), .inl (.int (2 : Int32))], h, 0, 0))
      refine k_steps HG 2 (zB_iff.mpr (?_ : G m _ (213, [(4, .inl (.int (0 : Int32))), (3, .inl (.int (hv h (hr h c0 5) c1.toNatClampNeg))), (0, .inl (.ref c0)), (1, .inl (.int c1)), (2, .inl (.int c2))], [.inl (.ref c0), .inl (.int ((2 : Int32) * (hv h (hr h c0 20) (hv h (hr h c0 5) c1.toNatClampNeg).toNatClampNeg)))], h, 0, 0)))
      refine k_getI HG rfl K hq_c0 rfl (Nat.le_of_ble_eq_true rfl) rfl (?_ : G m _ (216, [(4, .inl (.int (0 : Int32))), (3, .inl (.int (hv h (hr h c0 5) c1.toNatClampNeg))), (0, .inl (.ref c0)), (1, .inl (.int c1)), (2, .inl (.int c2))], [.inl (.int (hv h c0 13)), .inl (.int ((2 : Int32) * (hv h (hr h c0 20) (hv h (hr h c0 5) c1.toNatClampNeg).toNatClampNeg)))], h, 0, 0))
      refine k_steps HG 4 (kb_le (x := (((2 : Int32) * (hv h (hr h c0 20) (hv h (hr h c0 5) c1.toNatClampNeg).toNatClampNeg)) - (hv h c0 13))) (y := (0 : Int32)) ?_ ?_)
      · show G m _ (229, [(4, .inl (.int (((2 : Int32) * (hv h (hr h c0 20) (hv h (hr h c0 5) c1.toNatClampNeg).toNatClampNeg)) - (hv h c0 13)))), (3, .inl (.int (hv h (hr h c0 5) c1.toNatClampNeg))), (0, .inl (.ref c0)), (1, .inl (.int c1)), (2, .inl (.int c2))], [], h, 0, 0)
        refine k_steps HG 1 (zB_iff.mpr (?_ : G m _ (230, [(4, .inl (.int (((2 : Int32) * (hv h (hr h c0 20) (hv h (hr h c0 5) c1.toNatClampNeg).toNatClampNeg)) - (hv h c0 13)))), (3, .inl (.int (hv h (hr h c0 5) c1.toNatClampNeg))), (0, .inl (.ref c0)), (1, .inl (.int c1)), (2, .inl (.int c2))], [.inl (.int (0 : Int32))], h, 0, 0)))
        refine k_ext HG (L' := [(0, .inl (.ref c0)), (1, .inl (.int c1)), (2, .inl (.int c2)), (3, .inl (.int (hv h (hr h c0 5) c1.toNatClampNeg))), (4, .inl (.int (((2 : Int32) * (hv h (hr h c0 20) (hv h (hr h c0 5) c1.toNatClampNeg).toNatClampNeg)) - (hv h c0 13))))]) rfl rfl ⟨rfl, rfl, rfl, rfl, rfl, trivial⟩ ?_
        exact w_X5_says_j230 HG hsc hR K hq_c0
      · show G m _ (224, [(4, .inl (.int (((2 : Int32) * (hv h (hr h c0 20) (hv h (hr h c0 5) c1.toNatClampNeg).toNatClampNeg)) - (hv h c0 13)))), (3, .inl (.int (hv h (hr h c0 5) c1.toNatClampNeg))), (0, .inl (.ref c0)), (1, .inl (.int c1)), (2, .inl (.int c2))], [], h, 0, 0)
        refine k_steps HG 2 (zB_iff.mpr (?_ : G m _ (230, [(4, .inl (.int (((2 : Int32) * (hv h (hr h c0 20) (hv h (hr h c0 5) c1.toNatClampNeg).toNatClampNeg)) - (hv h c0 13)))), (3, .inl (.int (hv h (hr h c0 5) c1.toNatClampNeg))), (0, .inl (.ref c0)), (1, .inl (.int c1)), (2, .inl (.int c2))], [.inl (.int (((2 : Int32) * (hv h (hr h c0 20) (hv h (hr h c0 5) c1.toNatClampNeg).toNatClampNeg)) - (hv h c0 13)))], h, 0, 0)))
        refine k_ext HG (L' := [(0, .inl (.ref c0)), (1, .inl (.int c1)), (2, .inl (.int c2)), (3, .inl (.int (hv h (hr h c0 5) c1.toNatClampNeg))), (4, .inl (.int (((2 : Int32) * (hv h (hr h c0 20) (hv h (hr h c0 5) c1.toNatClampNeg).toNatClampNeg)) - (hv h c0 13))))]) rfl rfl ⟨rfl, rfl, rfl, rfl, rfl, trivial⟩ ?_
        exact w_X5_says_j230 HG hsc hR K hq_c0
  · show G m _ (85, [(0, .inl (.ref c0)), (1, .inl (.int c1)), (2, .inl (.int c2))], [], h, 0, 0)
    refine k_steps HG 2 (zB_iff.mpr (?_ : G m _ (88, [(0, .inl (.ref c0)), (1, .inl (.int c1)), (2, .inl (.int c2))], [.inl (.int (-4 : Int32)), .inl (.ref c0)], h, 0, 0)))
    refine k_cVIH HG (E' := ze_X5_refuse) (Or.inl ⟨rfl, rfl⟩) hsc rfl rfl rfl rfl rfl K rfl (fun hh => x_X5_refuse hsc K.1 hq_c0 hh) (fun y12613 K12613 => (?_ : G m _ (91, [(0, .inl (.ref c0)), (1, .inl (.int c1)), (2, .inl (.int c2))], [.inl (.int y12613.1)], y12613.2, 0, 0)))
    exact k_reti HG rfl rfl (fun e1 e2 => hR _ _ e1 e2 K12613)
noncomputable def F_X5_says (h : zH) (q0 : Nat) (a1 : Int32) (a2 : Int32) : Int32 × zH := (letf (F_X5_in (Int32.toInt64 a1) (0 : Int64) (7 : Int64)) (fun y1 => (if y1 = (0 : Int32) then (J_X5_says_j24 h q0 a1 a2) else (letf (F_X5_in (Int32.toInt64 a2) (0 : Int64) (5 : Int64)) (fun y2 => (if y2 = (0 : Int32) then (J_X5_says_j24 h q0 a1 a2) else (if (hv h (hr h q0 0) a1.toNatClampNeg) = (1 : Int32) then (J_X5_says_j69 h q0 a1 a2) else (if (hv h (hr h q0 0) a1.toNatClampNeg) = (2 : Int32) then (letf (F_X5_isUnder (hv h (hr h q0 18) (hv h (hr h q0 5) a1.toNatClampNeg).toNatClampNeg) a2) (fun y7 => (if y7 = (0 : Int32) then (J_X5_says_j69 h q0 a1 a2) else (J_X5_says_j76 h q0 a1 a2)))) else (J_X5_says_j76 h q0 a1 a2)))))))))
theorem x_X5_says {scr : List zV} {T : List Nat} {h : zH} {q0 : Nat} {a1 : Int32} {a2 : Int32} (hsc : cT scr) (K : hOK kty T h) (hq_q0 : T[q0]? = some 5) (hh : cH h) : xIH scr W_X5_says T T 219 [.inl (.ref q0), .inl (.int a1), .inl (.int a2)] h (F_X5_says h q0 a1 a2) := by
  refine xIH_intro (E := ze_X5_says) hsc rfl (cTb_ok rfl) hh (fun d r h' G HG Pf hR m => ?_)
  have K := kOK_refl (W := W_X5_says) K
  unfold F_X5_says
  show G m _ (0, [(0, .inl (.ref q0)), (1, .inl (.int a1)), (2, .inl (.int a2))], [], h, 0, 0)
  refine k_steps HG 4 (zB_iff.mpr (?_ : G m _ (6, [(0, .inl (.ref q0)), (1, .inl (.int a1)), (2, .inl (.int a2))], [.inl (.long (7 : Int64)), .inl (.long (0 : Int64)), .inl (.long (Int32.toInt64 a1))], h, 0, 0)))
  refine k_cSI HG (E' := ze_X5_in) (Or.inl rfl) hsc rfl rfl rfl rfl (fun hh => x_X5_in hsc hh) (fun y1 => (?_ : G m _ (9, [(0, .inl (.ref q0)), (1, .inl (.int a1)), (2, .inl (.int a2))], [.inl (.int y1)], h, 0, 0)))
  refine k_steps HG 1 (kb_eq (x := y1) (y := (0 : Int32)) ?_ ?_)
  · show G m _ (24, [(0, .inl (.ref q0)), (1, .inl (.int a1)), (2, .inl (.int a2))], [], h, 0, 0)
    exact w_X5_says_j24 HG hsc hR K hq_q0
  · show G m _ (12, [(0, .inl (.ref q0)), (1, .inl (.int a1)), (2, .inl (.int a2))], [], h, 0, 0)
    refine k_steps HG 4 (zB_iff.mpr (?_ : G m _ (18, [(0, .inl (.ref q0)), (1, .inl (.int a1)), (2, .inl (.int a2))], [.inl (.long (5 : Int64)), .inl (.long (0 : Int64)), .inl (.long (Int32.toInt64 a2))], h, 0, 0)))
    refine k_cSI HG (E' := ze_X5_in) (Or.inl rfl) hsc rfl rfl rfl rfl (fun hh => x_X5_in hsc hh) (fun y2 => (?_ : G m _ (21, [(0, .inl (.ref q0)), (1, .inl (.int a1)), (2, .inl (.int a2))], [.inl (.int y2)], h, 0, 0)))
    refine k_steps HG 1 (kb_ne (x := y2) (y := (0 : Int32)) ?_ ?_)
    · show G m _ (31, [(0, .inl (.ref q0)), (1, .inl (.int a1)), (2, .inl (.int a2))], [], h, 0, 0)
      refine k_steps HG 1 (zB_iff.mpr (?_ : G m _ (32, [(0, .inl (.ref q0)), (1, .inl (.int a1)), (2, .inl (.int a2))], [.inl (.ref q0)], h, 0, 0)))
      refine k_getR HG rfl K hq_q0 rfl (Nat.le_of_ble_eq_true rfl) rfl rfl (fun t3 => (?_ : G m _ (35, [(0, .inl (.ref q0)), (1, .inl (.int a1)), (2, .inl (.int a2))], [.inl (.ref (hr h q0 0))], h, 0, 0)))
      refine k_steps HG 1 (zB_iff.mpr (?_ : G m _ (36, [(0, .inl (.ref q0)), (1, .inl (.int a1)), (2, .inl (.int a2))], [.inl (.int a1), .inl (.ref (hr h q0 0))], h, 0, 0)))
      refine k_iald HG rfl K t3 rfl (fun _ => rfl) (?_ : G m _ (37, [(0, .inl (.ref q0)), (1, .inl (.int a1)), (2, .inl (.int a2))], [.inl (.int (hv h (hr h q0 0) a1.toNatClampNeg))], h, 0, 0))
      refine k_steps HG 2 (kb_eq (x := (hv h (hr h q0 0) a1.toNatClampNeg)) (y := (1 : Int32)) ?_ ?_)
      · show G m _ (69, [(0, .inl (.ref q0)), (1, .inl (.int a1)), (2, .inl (.int a2))], [], h, 0, 0)
        exact w_X5_says_j69 HG hsc hR K hq_q0
      · show G m _ (41, [(0, .inl (.ref q0)), (1, .inl (.int a1)), (2, .inl (.int a2))], [], h, 0, 0)
        refine k_steps HG 1 (zB_iff.mpr (?_ : G m _ (42, [(0, .inl (.ref q0)), (1, .inl (.int a1)), (2, .inl (.int a2))], [.inl (.ref q0)], h, 0, 0)))
        refine k_getR HG rfl K hq_q0 rfl (Nat.le_of_ble_eq_true rfl) rfl rfl (fun t4 => (?_ : G m _ (45, [(0, .inl (.ref q0)), (1, .inl (.int a1)), (2, .inl (.int a2))], [.inl (.ref (hr h q0 0))], h, 0, 0)))
        refine k_steps HG 1 (zB_iff.mpr (?_ : G m _ (46, [(0, .inl (.ref q0)), (1, .inl (.int a1)), (2, .inl (.int a2))], [.inl (.int a1), .inl (.ref (hr h q0 0))], h, 0, 0)))
        refine k_iald HG rfl K t4 rfl (fun _ => rfl) (?_ : G m _ (47, [(0, .inl (.ref q0)), (1, .inl (.int a1)), (2, .inl (.int a2))], [.inl (.int (hv h (hr h q0 0) a1.toNatClampNeg))], h, 0, 0))
        refine k_steps HG 2 (kb_ne (x := (hv h (hr h q0 0) a1.toNatClampNeg)) (y := (2 : Int32)) ?_ ?_)
        · show G m _ (76, [(0, .inl (.ref q0)), (1, .inl (.int a1)), (2, .inl (.int a2))], [], h, 0, 0)
          exact w_X5_says_j76 HG hsc hR K hq_q0
        · show G m _ (51, [(0, .inl (.ref q0)), (1, .inl (.int a1)), (2, .inl (.int a2))], [], h, 0, 0)
          refine k_steps HG 1 (zB_iff.mpr (?_ : G m _ (52, [(0, .inl (.ref q0)), (1, .inl (.int a1)), (2, .inl (.int a2))], [.inl (.ref q0)], h, 0, 0)))
          refine k_getR HG rfl K hq_q0 rfl (Nat.le_of_ble_eq_true rfl) rfl rfl (fun t5 => (?_ : G m _ (55, [(0, .inl (.ref q0)), (1, .inl (.int a1)), (2, .inl (.int a2))], [.inl (.ref (hr h q0 18))], h, 0, 0)))
          refine k_steps HG 1 (zB_iff.mpr (?_ : G m _ (56, [(0, .inl (.ref q0)), (1, .inl (.int a1)), (2, .inl (.int a2))], [.inl (.ref q0), .inl (.ref (hr h q0 18))], h, 0, 0)))
          refine k_getR HG rfl K hq_q0 rfl (Nat.le_of_ble_eq_true rfl) rfl rfl (fun t6 => (?_ : G m _ (59, [(0, .inl (.ref q0)), (1, .inl (.int a1)), (2, .inl (.int a2))], [.inl (.ref (hr h q0 5)), .inl (.ref (hr h q0 18))], h, 0, 0)))
          refine k_steps HG 1 (zB_iff.mpr (?_ : G m _ (60, [(0, .inl (.ref q0)), (1, .inl (.int a1)), (2, .inl (.int a2))], [.inl (.int a1), .inl (.ref (hr h q0 5)), .inl (.ref (hr h q0 18))], h, 0, 0)))
          refine k_iald HG rfl K t6 rfl (fun _ => rfl) (?_ : G m _ (61, [(0, .inl (.ref q0)), (1, .inl (.int a1)), (2, .inl (.int a2))], [.inl (.int (hv h (hr h q0 5) a1.toNatClampNeg)), .inl (.ref (hr h q0 18))], h, 0, 0))
          refine k_iald HG rfl K t5 rfl (fun _ => rfl) (?_ : G m _ (62, [(0, .inl (.ref q0)), (1, .inl (.int a1)), (2, .inl (.int a2))], [.inl (.int (hv h (hr h q0 18) (hv h (hr h q0 5) a1.toNatClampNeg).toNatClampNeg))], h, 0, 0))
          refine k_steps HG 1 (zB_iff.mpr (?_ : G m _ (63, [(0, .inl (.ref q0)), (1, .inl (.int a1)), (2, .inl (.int a2))], [.inl (.int a2), .inl (.int (hv h (hr h q0 18) (hv h (hr h q0 5) a1.toNatClampNeg).toNatClampNeg))], h, 0, 0)))
          refine k_cSI HG (E' := ze_X5_isUnder) (Or.inl rfl) hsc rfl rfl rfl rfl (fun hh => x_X5_isUnder hsc hh) (fun y7 => (?_ : G m _ (66, [(0, .inl (.ref q0)), (1, .inl (.int a1)), (2, .inl (.int a2))], [.inl (.int y7)], h, 0, 0)))
          refine k_steps HG 1 (kb_ne (x := y7) (y := (0 : Int32)) ?_ ?_)
          · show G m _ (76, [(0, .inl (.ref q0)), (1, .inl (.int a1)), (2, .inl (.int a2))], [], h, 0, 0)
            exact w_X5_says_j76 HG hsc hR K hq_q0
          · show G m _ (69, [(0, .inl (.ref q0)), (1, .inl (.int a1)), (2, .inl (.int a2))], [], h, 0, 0)
            exact w_X5_says_j69 HG hsc hR K hq_q0
    · show G m _ (24, [(0, .inl (.ref q0)), (1, .inl (.int a1)), (2, .inl (.int a2))], [], h, 0, 0)
      exact w_X5_says_j24 HG hsc hR K hq_q0
def W_X5_slips : List (Nat × Nat) := [(5, 9), (30, 1000), (31, 1000)]
noncomputable def F_X5_slips (h : zH) (q0 : Nat) (a1 : Int32) : Int32 × zH := (letf (F_X5_in (Int32.toInt64 a1) (1 : Int64) (60 : Int64)) (fun y1 => (if y1 = (0 : Int32) then (letf (F_X5_refuse h q0 (-2 : Int32)) (fun y4 => (y4.1, y4.2))) else (if (0 : Int32) < (hv h q0 17) then (letf (F_X5_refuse h q0 (-5 : Int32)) (fun y3 => (y3.1, y3.2))) else (letf (F_X5_becomeSlips h q0 a1) (fun h2 => ((hv h q0 9), h2)))))))
theorem x_X5_slips {scr : List zV} {T : List Nat} {h : zH} {q0 : Nat} {a1 : Int32} (hsc : cT scr) (K : hOK kty T h) (hq_q0 : T[q0]? = some 5) (hh : cH h) : xIH scr W_X5_slips T T 224 [.inl (.ref q0), .inl (.int a1)] h (F_X5_slips h q0 a1) := by
  refine xIH_intro (E := ze_X5_slips) hsc rfl (cTb_ok rfl) hh (fun d r h' G HG Pf hR m => ?_)
  have K := kOK_refl (W := W_X5_slips) K
  unfold F_X5_slips
  show G m _ (0, [(0, .inl (.ref q0)), (1, .inl (.int a1))], [], h, 0, 0)
  refine k_steps HG 4 (zB_iff.mpr (?_ : G m _ (6, [(0, .inl (.ref q0)), (1, .inl (.int a1))], [.inl (.long (60 : Int64)), .inl (.long (1 : Int64)), .inl (.long (Int32.toInt64 a1))], h, 0, 0)))
  refine k_cSI HG (E' := ze_X5_in) (Or.inl rfl) hsc rfl rfl rfl rfl (fun hh => x_X5_in hsc hh) (fun y1 => (?_ : G m _ (9, [(0, .inl (.ref q0)), (1, .inl (.int a1))], [.inl (.int y1)], h, 0, 0)))
  refine k_steps HG 1 (kb_ne (x := y1) (y := (0 : Int32)) ?_ ?_)
  · show G m _ (19, [(0, .inl (.ref q0)), (1, .inl (.int a1))], [], h, 0, 0)
    refine k_steps HG 1 (zB_iff.mpr (?_ : G m _ (20, [(0, .inl (.ref q0)), (1, .inl (.int a1))], [.inl (.ref q0)], h, 0, 0)))
    refine k_getI HG rfl K hq_q0 rfl (Nat.le_of_ble_eq_true rfl) rfl (?_ : G m _ (23, [(0, .inl (.ref q0)), (1, .inl (.int a1))], [.inl (.int (hv h q0 17))], h, 0, 0))
    refine k_steps HG 1 (kb_le (x := (hv h q0 17)) (y := (0 : Int32)) ?_ ?_)
    · show G m _ (33, [(0, .inl (.ref q0)), (1, .inl (.int a1))], [], h, 0, 0)
      refine k_steps HG 1 (zB_iff.mpr (?_ : G m _ (34, [(0, .inl (.ref q0)), (1, .inl (.int a1))], [.inl (.ref q0)], h, 0, 0)))
      refine k_getI HG rfl K hq_q0 rfl (Nat.le_of_ble_eq_true rfl) rfl (?_ : G m _ (37, [(0, .inl (.ref q0)), (1, .inl (.int a1))], [.inl (.int (hv h q0 9))], h, 0, 0))
      refine k_steps HG 3 (zB_iff.mpr (?_ : G m _ (40, [(2, .inl (.int (hv h q0 9))), (0, .inl (.ref q0)), (1, .inl (.int a1))], [.inl (.int a1), .inl (.ref q0)], h, 0, 0)))
      refine k_cVH HG (E' := ze_X5_becomeSlips) (Or.inl ⟨rfl, rfl⟩) hsc rfl rfl rfl rfl rfl K rfl (fun hh => x_X5_becomeSlips hsc K.1 hq_q0 hh) (fun h2 K2 => (?_ : G m _ (43, [(2, .inl (.int (hv h q0 9))), (0, .inl (.ref q0)), (1, .inl (.int a1))], [], h2, 0, 0)))
      refine k_steps HG 1 (zB_iff.mpr (?_ : G m _ (44, [(2, .inl (.int (hv h q0 9))), (0, .inl (.ref q0)), (1, .inl (.int a1))], [.inl (.int (hv h q0 9))], h2, 0, 0)))
      exact k_reti HG rfl rfl (fun e1 e2 => hR _ _ e1 e2 K2)
    · show G m _ (26, [(0, .inl (.ref q0)), (1, .inl (.int a1))], [], h, 0, 0)
      refine k_steps HG 2 (zB_iff.mpr (?_ : G m _ (29, [(0, .inl (.ref q0)), (1, .inl (.int a1))], [.inl (.int (-5 : Int32)), .inl (.ref q0)], h, 0, 0)))
      refine k_cVIH HG (E' := ze_X5_refuse) (Or.inl ⟨rfl, rfl⟩) hsc rfl rfl rfl rfl rfl K rfl (fun hh => x_X5_refuse hsc K.1 hq_q0 hh) (fun y3 K3 => (?_ : G m _ (32, [(0, .inl (.ref q0)), (1, .inl (.int a1))], [.inl (.int y3.1)], y3.2, 0, 0)))
      exact k_reti HG rfl rfl (fun e1 e2 => hR _ _ e1 e2 K3)
  · show G m _ (12, [(0, .inl (.ref q0)), (1, .inl (.int a1))], [], h, 0, 0)
    refine k_steps HG 2 (zB_iff.mpr (?_ : G m _ (15, [(0, .inl (.ref q0)), (1, .inl (.int a1))], [.inl (.int (-2 : Int32)), .inl (.ref q0)], h, 0, 0)))
    refine k_cVIH HG (E' := ze_X5_refuse) (Or.inl ⟨rfl, rfl⟩) hsc rfl rfl rfl rfl rfl K rfl (fun hh => x_X5_refuse hsc K.1 hq_q0 hh) (fun y4 K4 => (?_ : G m _ (18, [(0, .inl (.ref q0)), (1, .inl (.int a1))], [.inl (.int y4.1)], y4.2, 0, 0)))
    exact k_reti HG rfl rfl (fun e1 e2 => hR _ _ e1 e2 K4)
