def W_X5_feed : List (Nat × Nat) := [(5, 7), (18, 1000), (30, 1000)]
noncomputable def F_X5_feed (h : zH) (q0 : Nat) (a1 : Int32) : Int32 × zH := (letf (F_X5_in (Int32.toInt64 a1) (0 : Int64) (255 : Int64)) (fun y1 => (if y1 = (0 : Int32) then (letf (F_X5_refuse h q0 (-2 : Int32)) (fun y6 => (y6.1, y6.2))) else (if (hv h q0 7) = (250 : Int32) then (letf (F_X5_refuse h q0 (-6 : Int32)) (fun y5 => (y5.1, y5.2))) else (letf (hput h q0 7 (.inl (.int ((hv h q0 7) + (1 : Int32))))) (fun h3 => (letf (hput h3 (hr h q0 6) (hv h q0 7).toNatClampNeg (.inl (.int a1))) (fun h4 => ((hv h4 q0 7), h4)))))))))
theorem x_X5_feed {scr : List zV} {T : List Nat} {h : zH} {q0 : Nat} {a1 : Int32} (hsc : cT scr) (K : hOK kty T h) (hq_q0 : T[q0]? = some 5) (hh : cH h) : xIH scr W_X5_feed T T 177 [.inl (.ref q0), .inl (.int a1)] h (F_X5_feed h q0 a1) := by
  refine xIH_intro (E := ze_X5_feed) hsc rfl (cTb_ok rfl) hh (fun d r h' G HG Pf hR m => ?_)
  have K := kOK_refl (W := W_X5_feed) K
  unfold F_X5_feed
  show G m _ (0, [(0, .inl (.ref q0)), (1, .inl (.int a1))], [], h, 0, 0)
  refine k_steps HG 4 (zB_iff.mpr (?_ : G m _ (6, [(0, .inl (.ref q0)), (1, .inl (.int a1))], [.inl (.long (255 : Int64)), .inl (.long (0 : Int64)), .inl (.long (Int32.toInt64 a1))], h, 0, 0)))
  refine k_cSI HG (E' := ze_X5_in) (Or.inl rfl) hsc rfl rfl rfl rfl (fun hh => x_X5_in hsc hh) (fun y1 => (?_ : G m _ (9, [(0, .inl (.ref q0)), (1, .inl (.int a1))], [.inl (.int y1)], h, 0, 0)))
  refine k_steps HG 1 (kb_ne (x := y1) (y := (0 : Int32)) ?_ ?_)
  · show G m _ (19, [(0, .inl (.ref q0)), (1, .inl (.int a1))], [], h, 0, 0)
    refine k_steps HG 1 (zB_iff.mpr (?_ : G m _ (20, [(0, .inl (.ref q0)), (1, .inl (.int a1))], [.inl (.ref q0)], h, 0, 0)))
    refine k_getI HG rfl K hq_q0 rfl (Nat.le_of_ble_eq_true rfl) rfl (?_ : G m _ (23, [(0, .inl (.ref q0)), (1, .inl (.int a1))], [.inl (.int (hv h q0 7))], h, 0, 0))
    refine k_steps HG 2 (kb_ne (x := (hv h q0 7)) (y := (250 : Int32)) ?_ ?_)
    · show G m _ (36, [(0, .inl (.ref q0)), (1, .inl (.int a1))], [], h, 0, 0)
      refine k_steps HG 1 (zB_iff.mpr (?_ : G m _ (37, [(0, .inl (.ref q0)), (1, .inl (.int a1))], [.inl (.ref q0)], h, 0, 0)))
      refine k_getR HG rfl K hq_q0 rfl (Nat.le_of_ble_eq_true rfl) rfl rfl (fun t2 => (?_ : G m _ (40, [(0, .inl (.ref q0)), (1, .inl (.int a1))], [.inl (.ref (hr h q0 6))], h, 0, 0)))
      refine k_steps HG 2 (zB_iff.mpr (?_ : G m _ (42, [(0, .inl (.ref q0)), (1, .inl (.int a1))], [.inl (.ref q0), .inl (.ref q0), .inl (.ref (hr h q0 6))], h, 0, 0)))
      refine k_getI HG rfl K hq_q0 rfl (Nat.le_of_ble_eq_true rfl) rfl (?_ : G m _ (45, [(0, .inl (.ref q0)), (1, .inl (.int a1))], [.inl (.int (hv h q0 7)), .inl (.ref q0), .inl (.ref (hr h q0 6))], h, 0, 0))
      refine k_steps HG 3 (zB_iff.mpr (?_ : G m _ (48, [(0, .inl (.ref q0)), (1, .inl (.int a1))], [.inl (.int ((hv h q0 7) + (1 : Int32))), .inl (.ref q0), .inl (.int (hv h q0 7)), .inl (.ref (hr h q0 6))], h, 0, 0)))
      refine k_putI HG rfl K hq_q0 rfl rfl rfl (fun h3 K3 => (?_ : G m _ (51, [(0, .inl (.ref q0)), (1, .inl (.int a1))], [.inl (.int (hv h q0 7)), .inl (.ref (hr h q0 6))], h3, 0, 0)))
      refine k_steps HG 1 (zB_iff.mpr (?_ : G m _ (52, [(0, .inl (.ref q0)), (1, .inl (.int a1))], [.inl (.int a1), .inl (.int (hv h q0 7)), .inl (.ref (hr h q0 6))], h3, 0, 0)))
      refine k_iast HG rfl K3 t2 rfl (fun _ => rfl) rfl (fun h4 K4 => (?_ : G m _ (53, [(0, .inl (.ref q0)), (1, .inl (.int a1))], [], h4, 0, 0)))
      refine k_steps HG 1 (zB_iff.mpr (?_ : G m _ (54, [(0, .inl (.ref q0)), (1, .inl (.int a1))], [.inl (.ref q0)], h4, 0, 0)))
      refine k_getI HG rfl K4 hq_q0 rfl (Nat.le_of_ble_eq_true rfl) rfl (?_ : G m _ (57, [(0, .inl (.ref q0)), (1, .inl (.int a1))], [.inl (.int (hv h4 q0 7))], h4, 0, 0))
      exact k_reti HG rfl rfl (fun e1 e2 => hR _ _ e1 e2 K4)
    · show G m _ (29, [(0, .inl (.ref q0)), (1, .inl (.int a1))], [], h, 0, 0)
      refine k_steps HG 2 (zB_iff.mpr (?_ : G m _ (32, [(0, .inl (.ref q0)), (1, .inl (.int a1))], [.inl (.int (-6 : Int32)), .inl (.ref q0)], h, 0, 0)))
      refine k_cVIH HG (E' := ze_X5_refuse) (Or.inl ⟨rfl, rfl⟩) hsc rfl rfl rfl rfl rfl K rfl (fun hh => x_X5_refuse hsc K.1 hq_q0 hh) (fun y5 K5 => (?_ : G m _ (35, [(0, .inl (.ref q0)), (1, .inl (.int a1))], [.inl (.int y5.1)], y5.2, 0, 0)))
      exact k_reti HG rfl rfl (fun e1 e2 => hR _ _ e1 e2 K5)
  · show G m _ (12, [(0, .inl (.ref q0)), (1, .inl (.int a1))], [], h, 0, 0)
    refine k_steps HG 2 (zB_iff.mpr (?_ : G m _ (15, [(0, .inl (.ref q0)), (1, .inl (.int a1))], [.inl (.int (-2 : Int32)), .inl (.ref q0)], h, 0, 0)))
    refine k_cVIH HG (E' := ze_X5_refuse) (Or.inl ⟨rfl, rfl⟩) hsc rfl rfl rfl rfl rfl K rfl (fun hh => x_X5_refuse hsc K.1 hq_q0 hh) (fun y6 K6 => (?_ : G m _ (18, [(0, .inl (.ref q0)), (1, .inl (.int a1))], [.inl (.int y6.1)], y6.2, 0, 0)))
    exact k_reti HG rfl rfl (fun e1 e2 => hR _ _ e1 e2 K6)
def W_X5_fete : List (Nat × Nat) := [(5, 13), (30, 1000), (31, 1000), (35, 1000), (36, 1000)]
noncomputable def B_X5_fete_49 (c0 : Nat) (c1 : Int32) (s : (Int32 × Int32 × zH)) : (Int32 × Int32 × zH) ⊕ ((Int32 × zH) ⊕ (Int32 × zH)) := (if s.2.1 < (hv s.2.2 c0 17) then (if (hv s.2.2 (hr s.2.2 c0 22) s.2.1.toNatClampNeg) = (-1 : Int32) then (Sum.inl (s.1, (s.2.1 + (1 : Int32)), s.2.2)) else (if (hv s.2.2 (hr s.2.2 (hr s.2.2 c0 25) (hv s.2.2 (hr s.2.2 c0 22) s.2.1.toNatClampNeg).toNatClampNeg) s.2.1.toNatClampNeg) < c1 then (letf (hput s.2.2 (hr s.2.2 c0 22) s.2.1.toNatClampNeg (.inl (.int (-1 : Int32)))) (fun h2006 => (letf (hput h2006 (hr h2006 c0 21) s.2.1.toNatClampNeg (.inl (.int ((hv h2006 (hr h2006 c0 21) s.2.1.toNatClampNeg) + (1 : Int32))))) (fun h2008 => (Sum.inl ((s.1 + (1 : Int32)), (s.2.1 + (1 : Int32)), h2008)))))) else (Sum.inl (s.1, (s.2.1 + (1 : Int32)), s.2.2)))) else (Sum.inr (Sum.inr (s.1, s.2.2))))
noncomputable def B_X5_fete_21 (c0 : Nat) (c1 : Int32) (s : (Int32 × zH)) : (Int32 × zH) ⊕ (Int32 × zH) := (if (60 : Int32) < s.1 then (letf (hput s.2 c0 13 (.inl (.int (0 : Int32)))) (fun h1001 => (fx (B_X5_fete_49 c0 c1) (Sum.inr (0, [])) ((0 : Int32), (0 : Int32), h1001)))) else (letf (hput s.2 (hr s.2 c0 16) s.1.toNatClampNeg (.inl (.int (0 : Int32)))) (fun h1012 => (Sum.inl ((s.1 + (1 : Int32)), h1012)))))
noncomputable def F_X5_fete (h : zH) (q0 : Nat) (a1 : Int32) : Int32 × zH := (letf (F_X5_in (Int32.toInt64 a1) (0 : Int64) (1000 : Int64)) (fun y1 => (if y1 = (0 : Int32) then (letf (F_X5_refuse h q0 (-2 : Int32)) (fun y15 => (y15.1, y15.2))) else (fx (B_X5_fete_21 q0 a1) (0, []) ((0 : Int32), h)))))
theorem x_X5_fete {scr : List zV} {T : List Nat} {h : zH} {q0 : Nat} {a1 : Int32} (hsc : cT scr) (K : hOK kty T h) (hq_q0 : T[q0]? = some 5) (hh : cH h) : xIH scr W_X5_fete T T 178 [.inl (.ref q0), .inl (.int a1)] h (F_X5_fete h q0 a1) := by
  refine xIH_intro (E := ze_X5_fete) hsc rfl (cTb_ok rfl) hh (fun d r h' G HG Pf hR m => ?_)
  have K := kOK_refl (W := W_X5_fete) K
  unfold F_X5_fete
  show G m _ (0, [(0, .inl (.ref q0)), (1, .inl (.int a1))], [], h, 0, 0)
  refine k_steps HG 4 (zB_iff.mpr (?_ : G m _ (6, [(0, .inl (.ref q0)), (1, .inl (.int a1))], [.inl (.long (1000 : Int64)), .inl (.long (0 : Int64)), .inl (.long (Int32.toInt64 a1))], h, 0, 0)))
  refine k_cSI HG (E' := ze_X5_in) (Or.inl rfl) hsc rfl rfl rfl rfl (fun hh => x_X5_in hsc hh) (fun y1 => (?_ : G m _ (9, [(0, .inl (.ref q0)), (1, .inl (.int a1))], [.inl (.int y1)], h, 0, 0)))
  refine k_steps HG 1 (kb_ne (x := y1) (y := (0 : Int32)) ?_ ?_)
  · show G m _ (19, [(0, .inl (.ref q0)), (1, .inl (.int a1))], [], h, 0, 0)
    refine k_steps HG 2 (zB_iff.mpr (?_ : G m _ (21, [(2, .inl (.int (0 : Int32))), (0, .inl (.ref q0)), (1, .inl (.int a1))], [], h, 0, 0)))
    have lp2 : ∀ m2, m2 ≤ m → ∀ (v2_2 : Int32) (h2 : zH), kOK W_X5_fete T T h h2 → G m2 (Pf (fx (B_X5_fete_21 q0 a1) (0, []) (v2_2, h2))) (21, [(0, .inl (.ref q0)), (1, .inl (.int a1)), (2, .inl (.int v2_2))], [], h2, 0, 0) := by
      intro m2
      induction m2 with
      | zero =>
        intros
        exact k_zero HG
      | succ m2 ih2 =>
        intro le2 v2_2 h2 K2
        have le2 := Nat.le_of_succ_le le2
        have ih2 := ih2 le2
        refine k_fx ?_
        rw [B_X5_fete_21]
        refine k_first HG 2 (kb_gt (x := v2_2) (y := (60 : Int32)) ?_ ?_)
        · show G m2 _ (40, [(0, .inl (.ref q0)), (1, .inl (.int a1)), (2, .inl (.int v2_2))], [], h2, 0, 0)
          refine k_steps HG 2 (zB_iff.mpr (?_ : G m2 _ (42, [(0, .inl (.ref q0)), (1, .inl (.int a1)), (2, .inl (.int v2_2))], [.inl (.int (0 : Int32)), .inl (.ref q0)], h2, 0, 0)))
          refine k_putI HG rfl K2 hq_q0 rfl rfl rfl (fun h3 K3 => (?_ : G m2 _ (45, [(0, .inl (.ref q0)), (1, .inl (.int a1)), (2, .inl (.int v2_2))], [], h3, 0, 0)))
          refine k_steps HG 4 (zB_iff.mpr (?_ : G m2 _ (49, [(3, .inl (.int (0 : Int32))), (2, .inl (.int (0 : Int32))), (0, .inl (.ref q0)), (1, .inl (.int a1))], [], h3, 0, 0)))
          have lp4 : ∀ m4, m4 ≤ m2 → ∀ (v4_2 : Int32) (v4_3 : Int32) (h4 : zH), kOK W_X5_fete T T h h4 → G m4 ((fxP Pf (B_X5_fete_21 q0 a1) (0, [])) (fx (B_X5_fete_49 q0 a1) (Sum.inr (0, [])) (v4_2, v4_3, h4))) (49, [(0, .inl (.ref q0)), (1, .inl (.int a1)), (2, .inl (.int v4_2)), (3, .inl (.int v4_3))], [], h4, 0, 0) := by
            intro m4
            induction m4 with
            | zero =>
              intros
              exact k_zero HG
            | succ m4 ih4 =>
              intro le4 v4_2 v4_3 h4 K4
              have le4 := Nat.le_of_succ_le le4
              have ih4 := ih4 le4
              refine k_fx ?_
              rw [B_X5_fete_49]
              refine k_first HG 1 (zB_iff.mpr (?_ : G m4 _ (51, [(0, .inl (.ref q0)), (1, .inl (.int a1)), (2, .inl (.int v4_2)), (3, .inl (.int v4_3))], [.inl (.ref q0), .inl (.int v4_3)], h4, 0, 0)))
              refine k_getI HG rfl K4 hq_q0 rfl (Nat.le_of_ble_eq_true rfl) rfl (?_ : G m4 _ (54, [(0, .inl (.ref q0)), (1, .inl (.int a1)), (2, .inl (.int v4_2)), (3, .inl (.int v4_3))], [.inl (.int (hv h4 q0 17)), .inl (.int v4_3)], h4, 0, 0))
              refine k_steps HG 1 (kb_ge (x := v4_3) (y := (hv h4 q0 17)) ?_ ?_)
              · show G m4 _ (110, [(0, .inl (.ref q0)), (1, .inl (.int a1)), (2, .inl (.int v4_2)), (3, .inl (.int v4_3))], [], h4, 0, 0)
                refine k_steps HG 1 (zB_iff.mpr (?_ : G m4 _ (111, [(0, .inl (.ref q0)), (1, .inl (.int a1)), (2, .inl (.int v4_2)), (3, .inl (.int v4_3))], [.inl (.int v4_2)], h4, 0, 0)))
                exact k_reti HG rfl rfl (fun e1 e2 => hR _ _ e1 e2 K4)
              · show G m4 _ (57, [(0, .inl (.ref q0)), (1, .inl (.int a1)), (2, .inl (.int v4_2)), (3, .inl (.int v4_3))], [], h4, 0, 0)
                refine k_steps HG 1 (zB_iff.mpr (?_ : G m4 _ (58, [(0, .inl (.ref q0)), (1, .inl (.int a1)), (2, .inl (.int v4_2)), (3, .inl (.int v4_3))], [.inl (.ref q0)], h4, 0, 0)))
                refine k_getR HG rfl K4 hq_q0 rfl (Nat.le_of_ble_eq_true rfl) rfl rfl (fun t5 => (?_ : G m4 _ (61, [(0, .inl (.ref q0)), (1, .inl (.int a1)), (2, .inl (.int v4_2)), (3, .inl (.int v4_3))], [.inl (.ref (hr h4 q0 22))], h4, 0, 0)))
                refine k_steps HG 1 (zB_iff.mpr (?_ : G m4 _ (62, [(0, .inl (.ref q0)), (1, .inl (.int a1)), (2, .inl (.int v4_2)), (3, .inl (.int v4_3))], [.inl (.int v4_3), .inl (.ref (hr h4 q0 22))], h4, 0, 0)))
                refine k_iald HG rfl K4 t5 rfl (fun _ => rfl) (?_ : G m4 _ (63, [(0, .inl (.ref q0)), (1, .inl (.int a1)), (2, .inl (.int v4_2)), (3, .inl (.int v4_3))], [.inl (.int (hv h4 (hr h4 q0 22) v4_3.toNatClampNeg))], h4, 0, 0))
                refine k_steps HG 2 (kb_eq (x := (hv h4 (hr h4 q0 22) v4_3.toNatClampNeg)) (y := (-1 : Int32)) ?_ ?_)
                · show G m4 _ (104, [(0, .inl (.ref q0)), (1, .inl (.int a1)), (2, .inl (.int v4_2)), (3, .inl (.int v4_3))], [], h4, 0, 0)
                  refine k_steps HG 2 (zB_iff.mpr (?_ : G m4 _ (49, [(3, .inl (.int (v4_3 + (1 : Int32)))), (0, .inl (.ref q0)), (1, .inl (.int a1)), (2, .inl (.int v4_2))], [], h4, 0, 0)))
                  refine k_ext HG (L' := [(0, .inl (.ref q0)), (1, .inl (.int a1)), (2, .inl (.int v4_2)), (3, .inl (.int (v4_3 + (1 : Int32))))]) rfl rfl ⟨rfl, rfl, rfl, rfl, trivial⟩ ?_
                  exact ih4 _ _ _ K4
                · show G m4 _ (67, [(0, .inl (.ref q0)), (1, .inl (.int a1)), (2, .inl (.int v4_2)), (3, .inl (.int v4_3))], [], h4, 0, 0)
                  refine k_steps HG 1 (zB_iff.mpr (?_ : G m4 _ (68, [(0, .inl (.ref q0)), (1, .inl (.int a1)), (2, .inl (.int v4_2)), (3, .inl (.int v4_3))], [.inl (.ref q0)], h4, 0, 0)))
                  refine k_getR HG rfl K4 hq_q0 rfl (Nat.le_of_ble_eq_true rfl) rfl rfl (fun t6 => (?_ : G m4 _ (71, [(0, .inl (.ref q0)), (1, .inl (.int a1)), (2, .inl (.int v4_2)), (3, .inl (.int v4_3))], [.inl (.ref (hr h4 q0 25))], h4, 0, 0)))
                  refine k_steps HG 1 (zB_iff.mpr (?_ : G m4 _ (72, [(0, .inl (.ref q0)), (1, .inl (.int a1)), (2, .inl (.int v4_2)), (3, .inl (.int v4_3))], [.inl (.ref q0), .inl (.ref (hr h4 q0 25))], h4, 0, 0)))
                  refine k_getR HG rfl K4 hq_q0 rfl (Nat.le_of_ble_eq_true rfl) rfl rfl (fun t7 => (?_ : G m4 _ (75, [(0, .inl (.ref q0)), (1, .inl (.int a1)), (2, .inl (.int v4_2)), (3, .inl (.int v4_3))], [.inl (.ref (hr h4 q0 22)), .inl (.ref (hr h4 q0 25))], h4, 0, 0)))
                  refine k_steps HG 1 (zB_iff.mpr (?_ : G m4 _ (76, [(0, .inl (.ref q0)), (1, .inl (.int a1)), (2, .inl (.int v4_2)), (3, .inl (.int v4_3))], [.inl (.int v4_3), .inl (.ref (hr h4 q0 22)), .inl (.ref (hr h4 q0 25))], h4, 0, 0)))
                  refine k_iald HG rfl K4 t7 rfl (fun _ => rfl) (?_ : G m4 _ (77, [(0, .inl (.ref q0)), (1, .inl (.int a1)), (2, .inl (.int v4_2)), (3, .inl (.int v4_3))], [.inl (.int (hv h4 (hr h4 q0 22) v4_3.toNatClampNeg)), .inl (.ref (hr h4 q0 25))], h4, 0, 0))
                  refine k_aald HG rfl K4 t6 (fun _ => ⟨rfl, rfl⟩) (fun t8 => (?_ : G m4 _ (78, [(0, .inl (.ref q0)), (1, .inl (.int a1)), (2, .inl (.int v4_2)), (3, .inl (.int v4_3))], [.inl (.ref (hr h4 (hr h4 q0 25) (hv h4 (hr h4 q0 22) v4_3.toNatClampNeg).toNatClampNeg))], h4, 0, 0)))
                  refine k_steps HG 1 (zB_iff.mpr (?_ : G m4 _ (79, [(0, .inl (.ref q0)), (1, .inl (.int a1)), (2, .inl (.int v4_2)), (3, .inl (.int v4_3))], [.inl (.int v4_3), .inl (.ref (hr h4 (hr h4 q0 25) (hv h4 (hr h4 q0 22) v4_3.toNatClampNeg).toNatClampNeg))], h4, 0, 0)))
                  refine k_iald HG rfl K4 t8 rfl (fun _ => rfl) (?_ : G m4 _ (80, [(0, .inl (.ref q0)), (1, .inl (.int a1)), (2, .inl (.int v4_2)), (3, .inl (.int v4_3))], [.inl (.int (hv h4 (hr h4 (hr h4 q0 25) (hv h4 (hr h4 q0 22) v4_3.toNatClampNeg).toNatClampNeg) v4_3.toNatClampNeg))], h4, 0, 0))
                  refine k_steps HG 2 (kb_ge (x := (hv h4 (hr h4 (hr h4 q0 25) (hv h4 (hr h4 q0 22) v4_3.toNatClampNeg).toNatClampNeg) v4_3.toNatClampNeg)) (y := a1) ?_ ?_)
                  · show G m4 _ (104, [(0, .inl (.ref q0)), (1, .inl (.int a1)), (2, .inl (.int v4_2)), (3, .inl (.int v4_3))], [], h4, 0, 0)
                    refine k_steps HG 2 (zB_iff.mpr (?_ : G m4 _ (49, [(3, .inl (.int (v4_3 + (1 : Int32)))), (0, .inl (.ref q0)), (1, .inl (.int a1)), (2, .inl (.int v4_2))], [], h4, 0, 0)))
                    refine k_ext HG (L' := [(0, .inl (.ref q0)), (1, .inl (.int a1)), (2, .inl (.int v4_2)), (3, .inl (.int (v4_3 + (1 : Int32))))]) rfl rfl ⟨rfl, rfl, rfl, rfl, trivial⟩ ?_
                    exact ih4 _ _ _ K4
                  · show G m4 _ (84, [(0, .inl (.ref q0)), (1, .inl (.int a1)), (2, .inl (.int v4_2)), (3, .inl (.int v4_3))], [], h4, 0, 0)
                    refine k_steps HG 1 (zB_iff.mpr (?_ : G m4 _ (85, [(0, .inl (.ref q0)), (1, .inl (.int a1)), (2, .inl (.int v4_2)), (3, .inl (.int v4_3))], [.inl (.ref q0)], h4, 0, 0)))
                    refine k_getR HG rfl K4 hq_q0 rfl (Nat.le_of_ble_eq_true rfl) rfl rfl (fun t9 => (?_ : G m4 _ (88, [(0, .inl (.ref q0)), (1, .inl (.int a1)), (2, .inl (.int v4_2)), (3, .inl (.int v4_3))], [.inl (.ref (hr h4 q0 22))], h4, 0, 0)))
                    refine k_steps HG 2 (zB_iff.mpr (?_ : G m4 _ (90, [(0, .inl (.ref q0)), (1, .inl (.int a1)), (2, .inl (.int v4_2)), (3, .inl (.int v4_3))], [.inl (.int (-1 : Int32)), .inl (.int v4_3), .inl (.ref (hr h4 q0 22))], h4, 0, 0)))
                    refine k_iast HG rfl K4 t9 rfl (fun _ => rfl) rfl (fun h10 K10 => (?_ : G m4 _ (91, [(0, .inl (.ref q0)), (1, .inl (.int a1)), (2, .inl (.int v4_2)), (3, .inl (.int v4_3))], [], h10, 0, 0)))
                    refine k_steps HG 1 (zB_iff.mpr (?_ : G m4 _ (92, [(0, .inl (.ref q0)), (1, .inl (.int a1)), (2, .inl (.int v4_2)), (3, .inl (.int v4_3))], [.inl (.ref q0)], h10, 0, 0)))
                    refine k_getR HG rfl K10 hq_q0 rfl (Nat.le_of_ble_eq_true rfl) rfl rfl (fun t11 => (?_ : G m4 _ (95, [(0, .inl (.ref q0)), (1, .inl (.int a1)), (2, .inl (.int v4_2)), (3, .inl (.int v4_3))], [.inl (.ref (hr h10 q0 21))], h10, 0, 0)))
                    refine k_steps HG 2 (zB_iff.mpr (?_ : G m4 _ (97, [(0, .inl (.ref q0)), (1, .inl (.int a1)), (2, .inl (.int v4_2)), (3, .inl (.int v4_3))], [.inl (.int v4_3), .inl (.ref (hr h10 q0 21)), .inl (.int v4_3), .inl (.ref (hr h10 q0 21))], h10, 0, 0)))
                    refine k_iald HG rfl K10 t11 rfl (fun _ => rfl) (?_ : G m4 _ (98, [(0, .inl (.ref q0)), (1, .inl (.int a1)), (2, .inl (.int v4_2)), (3, .inl (.int v4_3))], [.inl (.int (hv h10 (hr h10 q0 21) v4_3.toNatClampNeg)), .inl (.int v4_3), .inl (.ref (hr h10 q0 21))], h10, 0, 0))
                    refine k_steps HG 2 (zB_iff.mpr (?_ : G m4 _ (100, [(0, .inl (.ref q0)), (1, .inl (.int a1)), (2, .inl (.int v4_2)), (3, .inl (.int v4_3))], [.inl (.int ((hv h10 (hr h10 q0 21) v4_3.toNatClampNeg) + (1 : Int32))), .inl (.int v4_3), .inl (.ref (hr h10 q0 21))], h10, 0, 0)))
                    refine k_iast HG rfl K10 t11 rfl (fun _ => rfl) rfl (fun h12 K12 => (?_ : G m4 _ (101, [(0, .inl (.ref q0)), (1, .inl (.int a1)), (2, .inl (.int v4_2)), (3, .inl (.int v4_3))], [], h12, 0, 0)))
                    refine k_steps HG 3 (zB_iff.mpr (?_ : G m4 _ (49, [(3, .inl (.int (v4_3 + (1 : Int32)))), (2, .inl (.int (v4_2 + (1 : Int32)))), (0, .inl (.ref q0)), (1, .inl (.int a1))], [], h12, 0, 0)))
                    refine k_ext HG (L' := [(0, .inl (.ref q0)), (1, .inl (.int a1)), (2, .inl (.int (v4_2 + (1 : Int32)))), (3, .inl (.int (v4_3 + (1 : Int32))))]) rfl rfl ⟨rfl, rfl, rfl, rfl, trivial⟩ ?_
                    exact ih4 _ _ _ K12
          refine k_ext HG (L' := [(0, .inl (.ref q0)), (1, .inl (.int a1)), (2, .inl (.int (0 : Int32))), (3, .inl (.int (0 : Int32)))]) rfl rfl ⟨rfl, rfl, rfl, rfl, trivial⟩ ?_
          exact lp4 m2 (Nat.le_refl _) _ _ _ K3
        · show G m2 _ (27, [(0, .inl (.ref q0)), (1, .inl (.int a1)), (2, .inl (.int v2_2))], [], h2, 0, 0)
          refine k_steps HG 1 (zB_iff.mpr (?_ : G m2 _ (28, [(0, .inl (.ref q0)), (1, .inl (.int a1)), (2, .inl (.int v2_2))], [.inl (.ref q0)], h2, 0, 0)))
          refine k_getR HG rfl K2 hq_q0 rfl (Nat.le_of_ble_eq_true rfl) rfl rfl (fun t13 => (?_ : G m2 _ (31, [(0, .inl (.ref q0)), (1, .inl (.int a1)), (2, .inl (.int v2_2))], [.inl (.ref (hr h2 q0 16))], h2, 0, 0)))
          refine k_steps HG 2 (zB_iff.mpr (?_ : G m2 _ (33, [(0, .inl (.ref q0)), (1, .inl (.int a1)), (2, .inl (.int v2_2))], [.inl (.int (0 : Int32)), .inl (.int v2_2), .inl (.ref (hr h2 q0 16))], h2, 0, 0)))
          refine k_iast HG rfl K2 t13 rfl (fun _ => rfl) rfl (fun h14 K14 => (?_ : G m2 _ (34, [(0, .inl (.ref q0)), (1, .inl (.int a1)), (2, .inl (.int v2_2))], [], h14, 0, 0)))
          refine k_steps HG 2 (zB_iff.mpr (?_ : G m2 _ (21, [(2, .inl (.int (v2_2 + (1 : Int32)))), (0, .inl (.ref q0)), (1, .inl (.int a1))], [], h14, 0, 0)))
          refine k_ext HG (L' := [(0, .inl (.ref q0)), (1, .inl (.int a1)), (2, .inl (.int (v2_2 + (1 : Int32))))]) rfl rfl ⟨rfl, rfl, rfl, trivial⟩ ?_
          exact ih2 _ _ K14
    refine k_ext HG (L' := [(0, .inl (.ref q0)), (1, .inl (.int a1)), (2, .inl (.int (0 : Int32)))]) rfl rfl ⟨rfl, rfl, rfl, trivial⟩ ?_
    exact lp2 m (Nat.le_refl _) _ _ K
  · show G m _ (12, [(0, .inl (.ref q0)), (1, .inl (.int a1))], [], h, 0, 0)
    refine k_steps HG 2 (zB_iff.mpr (?_ : G m _ (15, [(0, .inl (.ref q0)), (1, .inl (.int a1))], [.inl (.int (-2 : Int32)), .inl (.ref q0)], h, 0, 0)))
    refine k_cVIH HG (E' := ze_X5_refuse) (Or.inl ⟨rfl, rfl⟩) hsc rfl rfl rfl rfl rfl K rfl (fun hh => x_X5_refuse hsc K.1 hq_q0 hh) (fun y15 K15 => (?_ : G m _ (18, [(0, .inl (.ref q0)), (1, .inl (.int a1))], [.inl (.int y15.1)], y15.2, 0, 0)))
    exact k_reti HG rfl rfl (fun e1 e2 => hR _ _ e1 e2 K15)
noncomputable def F_X5_full (h : zH) (q0 : Nat) : Int32 := (letf (F_X5_inside h q0) (fun y1 => (letf (F_X5_fullWith h q0 y1) (fun y2 => y2))))
theorem x_X5_full {scr : List zV} {T : List Nat} {h : zH} {q0 : Nat} (hsc : cT scr) (K : hOK kty T h) (hq_q0 : T[q0]? = some 5) (hh : cH h) : xI scr 184 [.inl (.ref q0)] h (F_X5_full h q0) := by
  refine xI_intro (E := ze_X5_full) hsc rfl (cTb_ok rfl) hh (fun d r h' G HG Pf hR m => ?_)
  have K := kOK_refl (W := []) K
  unfold F_X5_full
  show G m _ (0, [(0, .inl (.ref q0))], [], h, 0, 0)
  refine k_steps HG 2 (zB_iff.mpr (?_ : G m _ (2, [(0, .inl (.ref q0))], [.inl (.ref q0), .inl (.ref q0)], h, 0, 0)))
  refine k_cVI HG (E' := ze_X5_inside) (Or.inl ⟨rfl, rfl⟩) hsc rfl rfl rfl rfl rfl (fun hh => x_X5_inside hsc K.1 hq_q0 hh) (fun y1 => (?_ : G m _ (5, [(0, .inl (.ref q0))], [.inl (.int y1), .inl (.ref q0)], h, 0, 0)))
  refine k_cVI HG (E' := ze_X5_fullWith) (Or.inl ⟨rfl, rfl⟩) hsc rfl rfl rfl rfl rfl (fun hh => x_X5_fullWith hsc K.1 hq_q0 hh) (fun y2 => (?_ : G m _ (8, [(0, .inl (.ref q0))], [.inl (.int y2)], h, 0, 0)))
  exact k_reti HG rfl rfl (fun e1 e2 => hR _ e1 e2)
def W_X5_guess : List (Nat × Nat) := [(30, 1000)]
noncomputable def B_X5_guess_37 (h : zH) (c0 : Nat) (c1 : Int32) (c2 : Int32) (s : (Int32 × Int32 × Int32)) : (Int32 × Int32 × Int32) ⊕ (Int32 × zH) := (if (hv h c0 9) < s.2.2 then (if s.1 = (-1 : Int32) then (letf (F_X5_refuse h c0 (-5 : Int32)) (fun y1001 => (Sum.inr (y1001.1, y1001.2)))) else (if c2 = (0 : Int32) then (Sum.inr (s.1, h)) else (Sum.inr (s.2.1, h)))) else (letf (F_X5_fullWith h c0 s.2.2) (fun y1002 => (if y1002 = c1 then (if s.1 = (-1 : Int32) then (Sum.inl (s.2.2, s.2.2, (s.2.2 + (1 : Int32)))) else (Sum.inl (s.1, s.2.2, (s.2.2 + (1 : Int32))))) else (Sum.inl (s.1, s.2.1, (s.2.2 + (1 : Int32))))))))
noncomputable def F_X5_guess (h : zH) (q0 : Nat) (a1 : Int32) (a2 : Int32) : Int32 × zH := (letf (F_X5_in (Int32.toInt64 a1) (0 : Int64) (4 : Int64)) (fun y1 => (if y1 = (0 : Int32) then (letf (F_X5_refuse h q0 (-2 : Int32)) (fun y2 => (y2.1, y2.2))) else (letf (F_X5_in (Int32.toInt64 a2) (0 : Int64) (1 : Int64)) (fun y3 => (if y3 = (0 : Int32) then (letf (F_X5_refuse h q0 (-2 : Int32)) (fun y7 => (y7.1, y7.2))) else (fx (B_X5_guess_37 h q0 a1 a2) (0, []) ((-1 : Int32), (-1 : Int32), (0 : Int32)))))))))
theorem x_X5_guess {scr : List zV} {T : List Nat} {h : zH} {q0 : Nat} {a1 : Int32} {a2 : Int32} (hsc : cT scr) (K : hOK kty T h) (hq_q0 : T[q0]? = some 5) (hh : cH h) : xIH scr W_X5_guess T T 188 [.inl (.ref q0), .inl (.int a1), .inl (.int a2)] h (F_X5_guess h q0 a1 a2) := by
  refine xIH_intro (E := ze_X5_guess) hsc rfl (cTb_ok rfl) hh (fun d r h' G HG Pf hR m => ?_)
  have K := kOK_refl (W := W_X5_guess) K
  unfold F_X5_guess
  show G m _ (0, [(0, .inl (.ref q0)), (1, .inl (.int a1)), (2, .inl (.int a2))], [], h, 0, 0)
  refine k_steps HG 4 (zB_iff.mpr (?_ : G m _ (6, [(0, .inl (.ref q0)), (1, .inl (.int a1)), (2, .inl (.int a2))], [.inl (.long (4 : Int64)), .inl (.long (0 : Int64)), .inl (.long (Int32.toInt64 a1))], h, 0, 0)))
  refine k_cSI HG (E' := ze_X5_in) (Or.inl rfl) hsc rfl rfl rfl rfl (fun hh => x_X5_in hsc hh) (fun y1 => (?_ : G m _ (9, [(0, .inl (.ref q0)), (1, .inl (.int a1)), (2, .inl (.int a2))], [.inl (.int y1)], h, 0, 0)))
  refine k_steps HG 1 (kb_eq (x := y1) (y := (0 : Int32)) ?_ ?_)
  · show G m _ (22, [(0, .inl (.ref q0)), (1, .inl (.int a1)), (2, .inl (.int a2))], [], h, 0, 0)
    refine k_steps HG 2 (zB_iff.mpr (?_ : G m _ (25, [(0, .inl (.ref q0)), (1, .inl (.int a1)), (2, .inl (.int a2))], [.inl (.int (-2 : Int32)), .inl (.ref q0)], h, 0, 0)))
    refine k_cVIH HG (E' := ze_X5_refuse) (Or.inl ⟨rfl, rfl⟩) hsc rfl rfl rfl rfl rfl K rfl (fun hh => x_X5_refuse hsc K.1 hq_q0 hh) (fun y2 K2 => (?_ : G m _ (28, [(0, .inl (.ref q0)), (1, .inl (.int a1)), (2, .inl (.int a2))], [.inl (.int y2.1)], y2.2, 0, 0)))
    exact k_reti HG rfl rfl (fun e1 e2 => hR _ _ e1 e2 K2)
  · show G m _ (12, [(0, .inl (.ref q0)), (1, .inl (.int a1)), (2, .inl (.int a2))], [], h, 0, 0)
    refine k_steps HG 4 (zB_iff.mpr (?_ : G m _ (16, [(0, .inl (.ref q0)), (1, .inl (.int a1)), (2, .inl (.int a2))], [.inl (.long (1 : Int64)), .inl (.long (0 : Int64)), .inl (.long (Int32.toInt64 a2))], h, 0, 0)))
    refine k_cSI HG (E' := ze_X5_in) (Or.inl rfl) hsc rfl rfl rfl rfl (fun hh => x_X5_in hsc hh) (fun y3 => (?_ : G m _ (19, [(0, .inl (.ref q0)), (1, .inl (.int a1)), (2, .inl (.int a2))], [.inl (.int y3)], h, 0, 0)))
    refine k_steps HG 1 (kb_ne (x := y3) (y := (0 : Int32)) ?_ ?_)
    · show G m _ (29, [(0, .inl (.ref q0)), (1, .inl (.int a1)), (2, .inl (.int a2))], [], h, 0, 0)
      refine k_steps HG 6 (zB_iff.mpr (?_ : G m _ (37, [(5, .inl (.int (0 : Int32))), (4, .inl (.int (-1 : Int32))), (3, .inl (.int (-1 : Int32))), (0, .inl (.ref q0)), (1, .inl (.int a1)), (2, .inl (.int a2))], [], h, 0, 0)))
      have lp4 : ∀ m4, m4 ≤ m → ∀ (v4_3 : Int32) (v4_4 : Int32) (v4_5 : Int32), G m4 (Pf (fx (B_X5_guess_37 h q0 a1 a2) (0, []) (v4_3, v4_4, v4_5))) (37, [(0, .inl (.ref q0)), (1, .inl (.int a1)), (2, .inl (.int a2)), (3, .inl (.int v4_3)), (4, .inl (.int v4_4)), (5, .inl (.int v4_5))], [], h, 0, 0) := by
        intro m4
        induction m4 with
        | zero =>
          intros
          exact k_zero HG
        | succ m4 ih4 =>
          intro le4 v4_3 v4_4 v4_5
          have le4 := Nat.le_of_succ_le le4
          have ih4 := ih4 le4
          refine k_fx ?_
          rw [B_X5_guess_37]
          refine k_first HG 1 (zB_iff.mpr (?_ : G m4 _ (40, [(0, .inl (.ref q0)), (1, .inl (.int a1)), (2, .inl (.int a2)), (3, .inl (.int v4_3)), (4, .inl (.int v4_4)), (5, .inl (.int v4_5))], [.inl (.ref q0), .inl (.int v4_5)], h, 0, 0)))
          refine k_getI HG rfl K hq_q0 rfl (Nat.le_of_ble_eq_true rfl) rfl (?_ : G m4 _ (43, [(0, .inl (.ref q0)), (1, .inl (.int a1)), (2, .inl (.int a2)), (3, .inl (.int v4_3)), (4, .inl (.int v4_4)), (5, .inl (.int v4_5))], [.inl (.int (hv h q0 9)), .inl (.int v4_5)], h, 0, 0))
          refine k_steps HG 1 (kb_gt (x := v4_5) (y := (hv h q0 9)) ?_ ?_)
          · show G m4 _ (78, [(0, .inl (.ref q0)), (1, .inl (.int a1)), (2, .inl (.int a2)), (3, .inl (.int v4_3)), (4, .inl (.int v4_4)), (5, .inl (.int v4_5))], [], h, 0, 0)
            refine k_steps HG 3 (kb_ne (x := v4_3) (y := (-1 : Int32)) ?_ ?_)
            · show G m4 _ (90, [(0, .inl (.ref q0)), (1, .inl (.int a1)), (2, .inl (.int a2)), (3, .inl (.int v4_3)), (4, .inl (.int v4_4)), (5, .inl (.int v4_5))], [], h, 0, 0)
              refine k_steps HG 2 (kb_ne (x := a2) (y := (0 : Int32)) ?_ ?_)
              · show G m4 _ (98, [(0, .inl (.ref q0)), (1, .inl (.int a1)), (2, .inl (.int a2)), (3, .inl (.int v4_3)), (4, .inl (.int v4_4)), (5, .inl (.int v4_5))], [], h, 0, 0)
                refine k_steps HG 1 (zB_iff.mpr (?_ : G m4 _ (100, [(0, .inl (.ref q0)), (1, .inl (.int a1)), (2, .inl (.int a2)), (3, .inl (.int v4_3)), (4, .inl (.int v4_4)), (5, .inl (.int v4_5))], [.inl (.int v4_4)], h, 0, 0)))
                exact k_reti HG rfl rfl (fun e1 e2 => hR _ _ e1 e2 K)
              · show G m4 _ (94, [(0, .inl (.ref q0)), (1, .inl (.int a1)), (2, .inl (.int a2)), (3, .inl (.int v4_3)), (4, .inl (.int v4_4)), (5, .inl (.int v4_5))], [], h, 0, 0)
                refine k_steps HG 2 (zB_iff.mpr (?_ : G m4 _ (100, [(0, .inl (.ref q0)), (1, .inl (.int a1)), (2, .inl (.int a2)), (3, .inl (.int v4_3)), (4, .inl (.int v4_4)), (5, .inl (.int v4_5))], [.inl (.int v4_3)], h, 0, 0)))
                exact k_reti HG rfl rfl (fun e1 e2 => hR _ _ e1 e2 K)
            · show G m4 _ (83, [(0, .inl (.ref q0)), (1, .inl (.int a1)), (2, .inl (.int a2)), (3, .inl (.int v4_3)), (4, .inl (.int v4_4)), (5, .inl (.int v4_5))], [], h, 0, 0)
              refine k_steps HG 2 (zB_iff.mpr (?_ : G m4 _ (86, [(0, .inl (.ref q0)), (1, .inl (.int a1)), (2, .inl (.int a2)), (3, .inl (.int v4_3)), (4, .inl (.int v4_4)), (5, .inl (.int v4_5))], [.inl (.int (-5 : Int32)), .inl (.ref q0)], h, 0, 0)))
              refine k_cVIH HG (E' := ze_X5_refuse) (Or.inl ⟨rfl, rfl⟩) hsc rfl rfl rfl rfl rfl K rfl (fun hh => x_X5_refuse hsc K.1 hq_q0 hh) (fun y5 K5 => (?_ : G m4 _ (89, [(0, .inl (.ref q0)), (1, .inl (.int a1)), (2, .inl (.int a2)), (3, .inl (.int v4_3)), (4, .inl (.int v4_4)), (5, .inl (.int v4_5))], [.inl (.int y5.1)], y5.2, 0, 0)))
              exact k_reti HG rfl rfl (fun e1 e2 => hR _ _ e1 e2 K5)
          · show G m4 _ (46, [(0, .inl (.ref q0)), (1, .inl (.int a1)), (2, .inl (.int a2)), (3, .inl (.int v4_3)), (4, .inl (.int v4_4)), (5, .inl (.int v4_5))], [], h, 0, 0)
            refine k_steps HG 2 (zB_iff.mpr (?_ : G m4 _ (49, [(0, .inl (.ref q0)), (1, .inl (.int a1)), (2, .inl (.int a2)), (3, .inl (.int v4_3)), (4, .inl (.int v4_4)), (5, .inl (.int v4_5))], [.inl (.int v4_5), .inl (.ref q0)], h, 0, 0)))
            refine k_cVI HG (E' := ze_X5_fullWith) (Or.inl ⟨rfl, rfl⟩) hsc rfl rfl rfl rfl rfl (fun hh => x_X5_fullWith hsc K.1 hq_q0 hh) (fun y6 => (?_ : G m4 _ (52, [(0, .inl (.ref q0)), (1, .inl (.int a1)), (2, .inl (.int a2)), (3, .inl (.int v4_3)), (4, .inl (.int v4_4)), (5, .inl (.int v4_5))], [.inl (.int y6)], h, 0, 0)))
            refine k_steps HG 2 (kb_ne (x := y6) (y := a1) ?_ ?_)
            · show G m4 _ (72, [(0, .inl (.ref q0)), (1, .inl (.int a1)), (2, .inl (.int a2)), (3, .inl (.int v4_3)), (4, .inl (.int v4_4)), (5, .inl (.int v4_5))], [], h, 0, 0)
              refine k_steps HG 2 (zB_iff.mpr (?_ : G m4 _ (37, [(5, .inl (.int (v4_5 + (1 : Int32)))), (0, .inl (.ref q0)), (1, .inl (.int a1)), (2, .inl (.int a2)), (3, .inl (.int v4_3)), (4, .inl (.int v4_4))], [], h, 0, 0)))
              refine k_ext HG (L' := [(0, .inl (.ref q0)), (1, .inl (.int a1)), (2, .inl (.int a2)), (3, .inl (.int v4_3)), (4, .inl (.int v4_4)), (5, .inl (.int (v4_5 + (1 : Int32))))]) rfl rfl ⟨rfl, rfl, rfl, rfl, rfl, rfl, trivial⟩ ?_
              exact ih4 _ _ _
            · show G m4 _ (56, [(0, .inl (.ref q0)), (1, .inl (.int a1)), (2, .inl (.int a2)), (3, .inl (.int v4_3)), (4, .inl (.int v4_4)), (5, .inl (.int v4_5))], [], h, 0, 0)
              refine k_steps HG 3 (kb_ne (x := v4_3) (y := (-1 : Int32)) ?_ ?_)
              · show G m4 _ (66, [(0, .inl (.ref q0)), (1, .inl (.int a1)), (2, .inl (.int a2)), (3, .inl (.int v4_3)), (4, .inl (.int v4_4)), (5, .inl (.int v4_5))], [], h, 0, 0)
                refine k_steps HG 6 (zB_iff.mpr (?_ : G m4 _ (37, [(5, .inl (.int (v4_5 + (1 : Int32)))), (4, .inl (.int v4_5)), (3, .inl (.int v4_3)), (0, .inl (.ref q0)), (1, .inl (.int a1)), (2, .inl (.int a2))], [], h, 0, 0)))
                refine k_ext HG (L' := [(0, .inl (.ref q0)), (1, .inl (.int a1)), (2, .inl (.int a2)), (3, .inl (.int v4_3)), (4, .inl (.int v4_5)), (5, .inl (.int (v4_5 + (1 : Int32))))]) rfl rfl ⟨rfl, rfl, rfl, rfl, rfl, rfl, trivial⟩ ?_
                exact ih4 _ _ _
              · show G m4 _ (61, [(0, .inl (.ref q0)), (1, .inl (.int a1)), (2, .inl (.int a2)), (3, .inl (.int v4_3)), (4, .inl (.int v4_4)), (5, .inl (.int v4_5))], [], h, 0, 0)
                refine k_steps HG 7 (zB_iff.mpr (?_ : G m4 _ (37, [(5, .inl (.int (v4_5 + (1 : Int32)))), (4, .inl (.int v4_5)), (3, .inl (.int v4_5)), (0, .inl (.ref q0)), (1, .inl (.int a1)), (2, .inl (.int a2))], [], h, 0, 0)))
                refine k_ext HG (L' := [(0, .inl (.ref q0)), (1, .inl (.int a1)), (2, .inl (.int a2)), (3, .inl (.int v4_5)), (4, .inl (.int v4_5)), (5, .inl (.int (v4_5 + (1 : Int32))))]) rfl rfl ⟨rfl, rfl, rfl, rfl, rfl, rfl, trivial⟩ ?_
                exact ih4 _ _ _
      refine k_ext HG (L' := [(0, .inl (.ref q0)), (1, .inl (.int a1)), (2, .inl (.int a2)), (3, .inl (.int (-1 : Int32))), (4, .inl (.int (-1 : Int32))), (5, .inl (.int (0 : Int32)))]) rfl rfl ⟨rfl, rfl, rfl, rfl, rfl, rfl, trivial⟩ ?_
      exact lp4 m (Nat.le_refl _) _ _ _
    · show G m _ (22, [(0, .inl (.ref q0)), (1, .inl (.int a1)), (2, .inl (.int a2))], [], h, 0, 0)
      refine k_steps HG 2 (zB_iff.mpr (?_ : G m _ (25, [(0, .inl (.ref q0)), (1, .inl (.int a1)), (2, .inl (.int a2))], [.inl (.int (-2 : Int32)), .inl (.ref q0)], h, 0, 0)))
      refine k_cVIH HG (E' := ze_X5_refuse) (Or.inl ⟨rfl, rfl⟩) hsc rfl rfl rfl rfl rfl K rfl (fun hh => x_X5_refuse hsc K.1 hq_q0 hh) (fun y7 K7 => (?_ : G m _ (28, [(0, .inl (.ref q0)), (1, .inl (.int a1)), (2, .inl (.int a2))], [.inl (.int y7.1)], y7.2, 0, 0)))
      exact k_reti HG rfl rfl (fun e1 e2 => hR _ _ e1 e2 K7)
noncomputable def F_X5_holds (h : zH) (q0 : Nat) (a1 : Int32) : Int32 := (letf (F_X5_in (Int32.toInt64 a1) (0 : Int64) (7 : Int64)) (fun y1 => (if y1 = (0 : Int32) then (-1 : Int32) else (if (hv h (hr h q0 0) a1.toNatClampNeg) = (0 : Int32) then (-1 : Int32) else (if (hv h (hr h q0 0) a1.toNatClampNeg) = (1 : Int32) then (hv h (hr h q0 1) a1.toNatClampNeg) else ((10 : Int32) + (hv h (hr h q0 5) a1.toNatClampNeg)))))))
theorem x_X5_holds {scr : List zV} {T : List Nat} {h : zH} {q0 : Nat} {a1 : Int32} (hsc : cT scr) (K : hOK kty T h) (hq_q0 : T[q0]? = some 5) (hh : cH h) : xI scr 189 [.inl (.ref q0), .inl (.int a1)] h (F_X5_holds h q0 a1) := by
  refine xI_intro (E := ze_X5_holds) hsc rfl (cTb_ok rfl) hh (fun d r h' G HG Pf hR m => ?_)
  have K := kOK_refl (W := []) K
  unfold F_X5_holds
  show G m _ (0, [(0, .inl (.ref q0)), (1, .inl (.int a1))], [], h, 0, 0)
  refine k_steps HG 4 (zB_iff.mpr (?_ : G m _ (6, [(0, .inl (.ref q0)), (1, .inl (.int a1))], [.inl (.long (7 : Int64)), .inl (.long (0 : Int64)), .inl (.long (Int32.toInt64 a1))], h, 0, 0)))
  refine k_cSI HG (E' := ze_X5_in) (Or.inl rfl) hsc rfl rfl rfl rfl (fun hh => x_X5_in hsc hh) (fun y1 => (?_ : G m _ (9, [(0, .inl (.ref q0)), (1, .inl (.int a1))], [.inl (.int y1)], h, 0, 0)))
  refine k_steps HG 1 (kb_eq (x := y1) (y := (0 : Int32)) ?_ ?_)
  · show G m _ (21, [(0, .inl (.ref q0)), (1, .inl (.int a1))], [], h, 0, 0)
    refine k_steps HG 1 (zB_iff.mpr (?_ : G m _ (22, [(0, .inl (.ref q0)), (1, .inl (.int a1))], [.inl (.int (-1 : Int32))], h, 0, 0)))
    exact k_reti HG rfl rfl (fun e1 e2 => hR _ e1 e2)
  · show G m _ (12, [(0, .inl (.ref q0)), (1, .inl (.int a1))], [], h, 0, 0)
    refine k_steps HG 1 (zB_iff.mpr (?_ : G m _ (13, [(0, .inl (.ref q0)), (1, .inl (.int a1))], [.inl (.ref q0)], h, 0, 0)))
    refine k_getR HG rfl K hq_q0 rfl (Nat.le_of_ble_eq_true rfl) rfl rfl (fun t2 => (?_ : G m _ (16, [(0, .inl (.ref q0)), (1, .inl (.int a1))], [.inl (.ref (hr h q0 0))], h, 0, 0)))
    refine k_steps HG 1 (zB_iff.mpr (?_ : G m _ (17, [(0, .inl (.ref q0)), (1, .inl (.int a1))], [.inl (.int a1), .inl (.ref (hr h q0 0))], h, 0, 0)))
    refine k_iald HG rfl K t2 rfl (fun _ => rfl) (?_ : G m _ (18, [(0, .inl (.ref q0)), (1, .inl (.int a1))], [.inl (.int (hv h (hr h q0 0) a1.toNatClampNeg))], h, 0, 0))
    refine k_steps HG 1 (kb_ne (x := (hv h (hr h q0 0) a1.toNatClampNeg)) (y := (0 : Int32)) ?_ ?_)
    · show G m _ (23, [(0, .inl (.ref q0)), (1, .inl (.int a1))], [], h, 0, 0)
      refine k_steps HG 1 (zB_iff.mpr (?_ : G m _ (24, [(0, .inl (.ref q0)), (1, .inl (.int a1))], [.inl (.ref q0)], h, 0, 0)))
      refine k_getR HG rfl K hq_q0 rfl (Nat.le_of_ble_eq_true rfl) rfl rfl (fun t3 => (?_ : G m _ (27, [(0, .inl (.ref q0)), (1, .inl (.int a1))], [.inl (.ref (hr h q0 0))], h, 0, 0)))
      refine k_steps HG 1 (zB_iff.mpr (?_ : G m _ (28, [(0, .inl (.ref q0)), (1, .inl (.int a1))], [.inl (.int a1), .inl (.ref (hr h q0 0))], h, 0, 0)))
      refine k_iald HG rfl K t3 rfl (fun _ => rfl) (?_ : G m _ (29, [(0, .inl (.ref q0)), (1, .inl (.int a1))], [.inl (.int (hv h (hr h q0 0) a1.toNatClampNeg))], h, 0, 0))
      refine k_steps HG 2 (kb_ne (x := (hv h (hr h q0 0) a1.toNatClampNeg)) (y := (1 : Int32)) ?_ ?_)
      · show G m _ (42, [(0, .inl (.ref q0)), (1, .inl (.int a1))], [], h, 0, 0)
        refine k_steps HG 2 (zB_iff.mpr (?_ : G m _ (45, [(0, .inl (.ref q0)), (1, .inl (.int a1))], [.inl (.ref q0), .inl (.int (10 : Int32))], h, 0, 0)))
        refine k_getR HG rfl K hq_q0 rfl (Nat.le_of_ble_eq_true rfl) rfl rfl (fun t4 => (?_ : G m _ (48, [(0, .inl (.ref q0)), (1, .inl (.int a1))], [.inl (.ref (hr h q0 5)), .inl (.int (10 : Int32))], h, 0, 0)))
        refine k_steps HG 1 (zB_iff.mpr (?_ : G m _ (49, [(0, .inl (.ref q0)), (1, .inl (.int a1))], [.inl (.int a1), .inl (.ref (hr h q0 5)), .inl (.int (10 : Int32))], h, 0, 0)))
        refine k_iald HG rfl K t4 rfl (fun _ => rfl) (?_ : G m _ (50, [(0, .inl (.ref q0)), (1, .inl (.int a1))], [.inl (.int (hv h (hr h q0 5) a1.toNatClampNeg)), .inl (.int (10 : Int32))], h, 0, 0))
        refine k_steps HG 1 (zB_iff.mpr (?_ : G m _ (51, [(0, .inl (.ref q0)), (1, .inl (.int a1))], [.inl (.int ((10 : Int32) + (hv h (hr h q0 5) a1.toNatClampNeg)))], h, 0, 0)))
        exact k_reti HG rfl rfl (fun e1 e2 => hR _ e1 e2)
      · show G m _ (33, [(0, .inl (.ref q0)), (1, .inl (.int a1))], [], h, 0, 0)
        refine k_steps HG 1 (zB_iff.mpr (?_ : G m _ (34, [(0, .inl (.ref q0)), (1, .inl (.int a1))], [.inl (.ref q0)], h, 0, 0)))
        refine k_getR HG rfl K hq_q0 rfl (Nat.le_of_ble_eq_true rfl) rfl rfl (fun t5 => (?_ : G m _ (37, [(0, .inl (.ref q0)), (1, .inl (.int a1))], [.inl (.ref (hr h q0 1))], h, 0, 0)))
        refine k_steps HG 1 (zB_iff.mpr (?_ : G m _ (38, [(0, .inl (.ref q0)), (1, .inl (.int a1))], [.inl (.int a1), .inl (.ref (hr h q0 1))], h, 0, 0)))
        refine k_iald HG rfl K t5 rfl (fun _ => rfl) (?_ : G m _ (39, [(0, .inl (.ref q0)), (1, .inl (.int a1))], [.inl (.int (hv h (hr h q0 1) a1.toNatClampNeg))], h, 0, 0))
        refine k_steps HG 1 (zB_iff.mpr (?_ : G m _ (51, [(0, .inl (.ref q0)), (1, .inl (.int a1))], [.inl (.int (hv h (hr h q0 1) a1.toNatClampNeg))], h, 0, 0)))
        exact k_reti HG rfl rfl (fun e1 e2 => hR _ e1 e2)
    · show G m _ (21, [(0, .inl (.ref q0)), (1, .inl (.int a1))], [], h, 0, 0)
      refine k_steps HG 1 (zB_iff.mpr (?_ : G m _ (22, [(0, .inl (.ref q0)), (1, .inl (.int a1))], [.inl (.int (-1 : Int32))], h, 0, 0)))
      exact k_reti HG rfl rfl (fun e1 e2 => hR _ e1 e2)
def W_X5_left : List (Nat × Nat) := [(30, 1000)]
noncomputable def B_X5_left_28 (h : zH) (c0 : Nat) (c1 : Int32) (c2 : Int32) (s : (Int32 × Int32)) : (Int32 × Int32) ⊕ (Int32 × zH) := (if s.2 < (hv h c0 17) then (if (hv h (hr h c0 22) s.2.toNatClampNeg) = (-1 : Int32) then (if (hv h (hr h c0 18) s.2.toNatClampNeg) = (4 : Int32) then (letf (F_X5_refuse h c0 (-5 : Int32)) (fun y1003 => (Sum.inr (y1003.1, y1003.2)))) else (if (hv h (hr h c0 18) s.2.toNatClampNeg) = (5 : Int32) then (letf (F_X5_refuse h c0 (-5 : Int32)) (fun y1005 => (Sum.inr (y1005.1, y1005.2)))) else (if (hv h (hr h c0 18) s.2.toNatClampNeg) = (3 : Int32) then (letf (F_X5_refuse h c0 (-5 : Int32)) (fun y1007 => (Sum.inr (y1007.1, y1007.2)))) else (Sum.inl ((s.1 + (1 : Int32)), (s.2 + (1 : Int32))))))) else (Sum.inl (s.1, (s.2 + (1 : Int32))))) else (if c2 = (0 : Int32) then (Sum.inr ((0 : Int32), h)) else (Sum.inr (((((1000 : Int32) * s.1) * (c2 - c1)) / c2), h))))
noncomputable def F_X5_left (h : zH) (q0 : Nat) (a1 : Int32) : Int32 × zH := (letf (F_X5_inside h q0) (fun y1 => (letf (F_X5_in (Int32.toInt64 a1) (0 : Int64) (Int32.toInt64 y1)) (fun y2 => (if y2 = (0 : Int32) then (letf (F_X5_refuse h q0 (-2 : Int32)) (fun y11 => (y11.1, y11.2))) else (fx (B_X5_left_28 h q0 a1 y1) (0, []) ((0 : Int32), (0 : Int32))))))))
theorem x_X5_left {scr : List zV} {T : List Nat} {h : zH} {q0 : Nat} {a1 : Int32} (hsc : cT scr) (K : hOK kty T h) (hq_q0 : T[q0]? = some 5) (hh : cH h) : xIH scr W_X5_left T T 195 [.inl (.ref q0), .inl (.int a1)] h (F_X5_left h q0 a1) := by
  refine xIH_intro (E := ze_X5_left) hsc rfl (cTb_ok rfl) hh (fun d r h' G HG Pf hR m => ?_)
  have K := kOK_refl (W := W_X5_left) K
  unfold F_X5_left
  show G m _ (0, [(0, .inl (.ref q0)), (1, .inl (.int a1))], [], h, 0, 0)
  refine k_steps HG 1 (zB_iff.mpr (?_ : G m _ (1, [(0, .inl (.ref q0)), (1, .inl (.int a1))], [.inl (.ref q0)], h, 0, 0)))
  refine k_cVI HG (E' := ze_X5_inside) (Or.inl ⟨rfl, rfl⟩) hsc rfl rfl rfl rfl rfl (fun hh => x_X5_inside hsc K.1 hq_q0 hh) (fun y1 => (?_ : G m _ (4, [(0, .inl (.ref q0)), (1, .inl (.int a1))], [.inl (.int y1)], h, 0, 0)))
  refine k_steps HG 6 (zB_iff.mpr (?_ : G m _ (10, [(2, .inl (.int y1)), (0, .inl (.ref q0)), (1, .inl (.int a1))], [.inl (.long (Int32.toInt64 y1)), .inl (.long (0 : Int64)), .inl (.long (Int32.toInt64 a1))], h, 0, 0)))
  refine k_cSI HG (E' := ze_X5_in) (Or.inl rfl) hsc rfl rfl rfl rfl (fun hh => x_X5_in hsc hh) (fun y2 => (?_ : G m _ (13, [(2, .inl (.int y1)), (0, .inl (.ref q0)), (1, .inl (.int a1))], [.inl (.int y2)], h, 0, 0)))
  refine k_steps HG 1 (kb_ne (x := y2) (y := (0 : Int32)) ?_ ?_)
  · show G m _ (23, [(2, .inl (.int y1)), (0, .inl (.ref q0)), (1, .inl (.int a1))], [], h, 0, 0)
    refine k_steps HG 4 (zB_iff.mpr (?_ : G m _ (28, [(4, .inl (.int (0 : Int32))), (3, .inl (.int (0 : Int32))), (2, .inl (.int y1)), (0, .inl (.ref q0)), (1, .inl (.int a1))], [], h, 0, 0)))
    have lp3 : ∀ m3, m3 ≤ m → ∀ (v3_3 : Int32) (v3_4 : Int32), G m3 (Pf (fx (B_X5_left_28 h q0 a1 y1) (0, []) (v3_3, v3_4))) (28, [(0, .inl (.ref q0)), (1, .inl (.int a1)), (2, .inl (.int y1)), (3, .inl (.int v3_3)), (4, .inl (.int v3_4))], [], h, 0, 0) := by
      intro m3
      induction m3 with
      | zero =>
        intros
        exact k_zero HG
      | succ m3 ih3 =>
        intro le3 v3_3 v3_4
        have le3 := Nat.le_of_succ_le le3
        have ih3 := ih3 le3
        refine k_fx ?_
        rw [B_X5_left_28]
        refine k_first HG 1 (zB_iff.mpr (?_ : G m3 _ (31, [(0, .inl (.ref q0)), (1, .inl (.int a1)), (2, .inl (.int y1)), (3, .inl (.int v3_3)), (4, .inl (.int v3_4))], [.inl (.ref q0), .inl (.int v3_4)], h, 0, 0)))
        refine k_getI HG rfl K hq_q0 rfl (Nat.le_of_ble_eq_true rfl) rfl (?_ : G m3 _ (34, [(0, .inl (.ref q0)), (1, .inl (.int a1)), (2, .inl (.int y1)), (3, .inl (.int v3_3)), (4, .inl (.int v3_4))], [.inl (.int (hv h q0 17)), .inl (.int v3_4)], h, 0, 0))
        refine k_steps HG 1 (kb_ge (x := v3_4) (y := (hv h q0 17)) ?_ ?_)
        · show G m3 _ (97, [(0, .inl (.ref q0)), (1, .inl (.int a1)), (2, .inl (.int y1)), (3, .inl (.int v3_3)), (4, .inl (.int v3_4))], [], h, 0, 0)
          refine k_steps HG 2 (kb_ne (x := y1) (y := (0 : Int32)) ?_ ?_)
          · show G m3 _ (105, [(0, .inl (.ref q0)), (1, .inl (.int a1)), (2, .inl (.int y1)), (3, .inl (.int v3_3)), (4, .inl (.int v3_4))], [], h, 0, 0)
            refine k_steps HG 8 (zB_iff.mpr (?_ : G m3 _ (115, [(0, .inl (.ref q0)), (1, .inl (.int a1)), (2, .inl (.int y1)), (3, .inl (.int v3_3)), (4, .inl (.int v3_4))], [.inl (.int y1), .inl (.int (((1000 : Int32) * v3_3) * (y1 - a1)))], h, 0, 0)))
            refine k_div HG rfl (?_ : G m3 _ (116, [(0, .inl (.ref q0)), (1, .inl (.int a1)), (2, .inl (.int y1)), (3, .inl (.int v3_3)), (4, .inl (.int v3_4))], [.inl (.int ((((1000 : Int32) * v3_3) * (y1 - a1)) / y1))], h, 0, 0))
            exact k_reti HG rfl rfl (fun e1 e2 => hR _ _ e1 e2 K)
          · show G m3 _ (101, [(0, .inl (.ref q0)), (1, .inl (.int a1)), (2, .inl (.int y1)), (3, .inl (.int v3_3)), (4, .inl (.int v3_4))], [], h, 0, 0)
            refine k_steps HG 2 (zB_iff.mpr (?_ : G m3 _ (116, [(0, .inl (.ref q0)), (1, .inl (.int a1)), (2, .inl (.int y1)), (3, .inl (.int v3_3)), (4, .inl (.int v3_4))], [.inl (.int (0 : Int32))], h, 0, 0)))
            exact k_reti HG rfl rfl (fun e1 e2 => hR _ _ e1 e2 K)
        · show G m3 _ (37, [(0, .inl (.ref q0)), (1, .inl (.int a1)), (2, .inl (.int y1)), (3, .inl (.int v3_3)), (4, .inl (.int v3_4))], [], h, 0, 0)
          refine k_steps HG 1 (zB_iff.mpr (?_ : G m3 _ (38, [(0, .inl (.ref q0)), (1, .inl (.int a1)), (2, .inl (.int y1)), (3, .inl (.int v3_3)), (4, .inl (.int v3_4))], [.inl (.ref q0)], h, 0, 0)))
          refine k_getR HG rfl K hq_q0 rfl (Nat.le_of_ble_eq_true rfl) rfl rfl (fun t4 => (?_ : G m3 _ (41, [(0, .inl (.ref q0)), (1, .inl (.int a1)), (2, .inl (.int y1)), (3, .inl (.int v3_3)), (4, .inl (.int v3_4))], [.inl (.ref (hr h q0 22))], h, 0, 0)))
          refine k_steps HG 1 (zB_iff.mpr (?_ : G m3 _ (43, [(0, .inl (.ref q0)), (1, .inl (.int a1)), (2, .inl (.int y1)), (3, .inl (.int v3_3)), (4, .inl (.int v3_4))], [.inl (.int v3_4), .inl (.ref (hr h q0 22))], h, 0, 0)))
          refine k_iald HG rfl K t4 rfl (fun _ => rfl) (?_ : G m3 _ (44, [(0, .inl (.ref q0)), (1, .inl (.int a1)), (2, .inl (.int y1)), (3, .inl (.int v3_3)), (4, .inl (.int v3_4))], [.inl (.int (hv h (hr h q0 22) v3_4.toNatClampNeg))], h, 0, 0))
          refine k_steps HG 2 (kb_ne (x := (hv h (hr h q0 22) v3_4.toNatClampNeg)) (y := (-1 : Int32)) ?_ ?_)
          · show G m3 _ (91, [(0, .inl (.ref q0)), (1, .inl (.int a1)), (2, .inl (.int y1)), (3, .inl (.int v3_3)), (4, .inl (.int v3_4))], [], h, 0, 0)
            refine k_steps HG 2 (zB_iff.mpr (?_ : G m3 _ (28, [(4, .inl (.int (v3_4 + (1 : Int32)))), (0, .inl (.ref q0)), (1, .inl (.int a1)), (2, .inl (.int y1)), (3, .inl (.int v3_3))], [], h, 0, 0)))
            refine k_ext HG (L' := [(0, .inl (.ref q0)), (1, .inl (.int a1)), (2, .inl (.int y1)), (3, .inl (.int v3_3)), (4, .inl (.int (v3_4 + (1 : Int32))))]) rfl rfl ⟨rfl, rfl, rfl, rfl, rfl, trivial⟩ ?_
            exact ih3 _ _
          · show G m3 _ (48, [(0, .inl (.ref q0)), (1, .inl (.int a1)), (2, .inl (.int y1)), (3, .inl (.int v3_3)), (4, .inl (.int v3_4))], [], h, 0, 0)
            refine k_steps HG 1 (zB_iff.mpr (?_ : G m3 _ (49, [(0, .inl (.ref q0)), (1, .inl (.int a1)), (2, .inl (.int y1)), (3, .inl (.int v3_3)), (4, .inl (.int v3_4))], [.inl (.ref q0)], h, 0, 0)))
            refine k_getR HG rfl K hq_q0 rfl (Nat.le_of_ble_eq_true rfl) rfl rfl (fun t5 => (?_ : G m3 _ (52, [(0, .inl (.ref q0)), (1, .inl (.int a1)), (2, .inl (.int y1)), (3, .inl (.int v3_3)), (4, .inl (.int v3_4))], [.inl (.ref (hr h q0 18))], h, 0, 0)))
            refine k_steps HG 1 (zB_iff.mpr (?_ : G m3 _ (54, [(0, .inl (.ref q0)), (1, .inl (.int a1)), (2, .inl (.int y1)), (3, .inl (.int v3_3)), (4, .inl (.int v3_4))], [.inl (.int v3_4), .inl (.ref (hr h q0 18))], h, 0, 0)))
            refine k_iald HG rfl K t5 rfl (fun _ => rfl) (?_ : G m3 _ (55, [(0, .inl (.ref q0)), (1, .inl (.int a1)), (2, .inl (.int y1)), (3, .inl (.int v3_3)), (4, .inl (.int v3_4))], [.inl (.int (hv h (hr h q0 18) v3_4.toNatClampNeg))], h, 0, 0))
            refine k_steps HG 2 (kb_eq (x := (hv h (hr h q0 18) v3_4.toNatClampNeg)) (y := (4 : Int32)) ?_ ?_)
            · show G m3 _ (81, [(0, .inl (.ref q0)), (1, .inl (.int a1)), (2, .inl (.int y1)), (3, .inl (.int v3_3)), (4, .inl (.int v3_4))], [], h, 0, 0)
              refine k_steps HG 2 (zB_iff.mpr (?_ : G m3 _ (84, [(0, .inl (.ref q0)), (1, .inl (.int a1)), (2, .inl (.int y1)), (3, .inl (.int v3_3)), (4, .inl (.int v3_4))], [.inl (.int (-5 : Int32)), .inl (.ref q0)], h, 0, 0)))
              refine k_cVIH HG (E' := ze_X5_refuse) (Or.inl ⟨rfl, rfl⟩) hsc rfl rfl rfl rfl rfl K rfl (fun hh => x_X5_refuse hsc K.1 hq_q0 hh) (fun y6 K6 => (?_ : G m3 _ (87, [(0, .inl (.ref q0)), (1, .inl (.int a1)), (2, .inl (.int y1)), (3, .inl (.int v3_3)), (4, .inl (.int v3_4))], [.inl (.int y6.1)], y6.2, 0, 0)))
              exact k_reti HG rfl rfl (fun e1 e2 => hR _ _ e1 e2 K6)
            · show G m3 _ (59, [(0, .inl (.ref q0)), (1, .inl (.int a1)), (2, .inl (.int y1)), (3, .inl (.int v3_3)), (4, .inl (.int v3_4))], [], h, 0, 0)
              refine k_steps HG 1 (zB_iff.mpr (?_ : G m3 _ (60, [(0, .inl (.ref q0)), (1, .inl (.int a1)), (2, .inl (.int y1)), (3, .inl (.int v3_3)), (4, .inl (.int v3_4))], [.inl (.ref q0)], h, 0, 0)))
              refine k_getR HG rfl K hq_q0 rfl (Nat.le_of_ble_eq_true rfl) rfl rfl (fun t7 => (?_ : G m3 _ (63, [(0, .inl (.ref q0)), (1, .inl (.int a1)), (2, .inl (.int y1)), (3, .inl (.int v3_3)), (4, .inl (.int v3_4))], [.inl (.ref (hr h q0 18))], h, 0, 0)))
              refine k_steps HG 1 (zB_iff.mpr (?_ : G m3 _ (65, [(0, .inl (.ref q0)), (1, .inl (.int a1)), (2, .inl (.int y1)), (3, .inl (.int v3_3)), (4, .inl (.int v3_4))], [.inl (.int v3_4), .inl (.ref (hr h q0 18))], h, 0, 0)))
              refine k_iald HG rfl K t7 rfl (fun _ => rfl) (?_ : G m3 _ (66, [(0, .inl (.ref q0)), (1, .inl (.int a1)), (2, .inl (.int y1)), (3, .inl (.int v3_3)), (4, .inl (.int v3_4))], [.inl (.int (hv h (hr h q0 18) v3_4.toNatClampNeg))], h, 0, 0))
              refine k_steps HG 2 (kb_eq (x := (hv h (hr h q0 18) v3_4.toNatClampNeg)) (y := (5 : Int32)) ?_ ?_)
              · show G m3 _ (81, [(0, .inl (.ref q0)), (1, .inl (.int a1)), (2, .inl (.int y1)), (3, .inl (.int v3_3)), (4, .inl (.int v3_4))], [], h, 0, 0)
                refine k_steps HG 2 (zB_iff.mpr (?_ : G m3 _ (84, [(0, .inl (.ref q0)), (1, .inl (.int a1)), (2, .inl (.int y1)), (3, .inl (.int v3_3)), (4, .inl (.int v3_4))], [.inl (.int (-5 : Int32)), .inl (.ref q0)], h, 0, 0)))
                refine k_cVIH HG (E' := ze_X5_refuse) (Or.inl ⟨rfl, rfl⟩) hsc rfl rfl rfl rfl rfl K rfl (fun hh => x_X5_refuse hsc K.1 hq_q0 hh) (fun y8 K8 => (?_ : G m3 _ (87, [(0, .inl (.ref q0)), (1, .inl (.int a1)), (2, .inl (.int y1)), (3, .inl (.int v3_3)), (4, .inl (.int v3_4))], [.inl (.int y8.1)], y8.2, 0, 0)))
                exact k_reti HG rfl rfl (fun e1 e2 => hR _ _ e1 e2 K8)
              · show G m3 _ (70, [(0, .inl (.ref q0)), (1, .inl (.int a1)), (2, .inl (.int y1)), (3, .inl (.int v3_3)), (4, .inl (.int v3_4))], [], h, 0, 0)
                refine k_steps HG 1 (zB_iff.mpr (?_ : G m3 _ (71, [(0, .inl (.ref q0)), (1, .inl (.int a1)), (2, .inl (.int y1)), (3, .inl (.int v3_3)), (4, .inl (.int v3_4))], [.inl (.ref q0)], h, 0, 0)))
                refine k_getR HG rfl K hq_q0 rfl (Nat.le_of_ble_eq_true rfl) rfl rfl (fun t9 => (?_ : G m3 _ (74, [(0, .inl (.ref q0)), (1, .inl (.int a1)), (2, .inl (.int y1)), (3, .inl (.int v3_3)), (4, .inl (.int v3_4))], [.inl (.ref (hr h q0 18))], h, 0, 0)))
                refine k_steps HG 1 (zB_iff.mpr (?_ : G m3 _ (76, [(0, .inl (.ref q0)), (1, .inl (.int a1)), (2, .inl (.int y1)), (3, .inl (.int v3_3)), (4, .inl (.int v3_4))], [.inl (.int v3_4), .inl (.ref (hr h q0 18))], h, 0, 0)))
                refine k_iald HG rfl K t9 rfl (fun _ => rfl) (?_ : G m3 _ (77, [(0, .inl (.ref q0)), (1, .inl (.int a1)), (2, .inl (.int y1)), (3, .inl (.int v3_3)), (4, .inl (.int v3_4))], [.inl (.int (hv h (hr h q0 18) v3_4.toNatClampNeg))], h, 0, 0))
                refine k_steps HG 2 (kb_ne (x := (hv h (hr h q0 18) v3_4.toNatClampNeg)) (y := (3 : Int32)) ?_ ?_)
                · show G m3 _ (88, [(0, .inl (.ref q0)), (1, .inl (.int a1)), (2, .inl (.int y1)), (3, .inl (.int v3_3)), (4, .inl (.int v3_4))], [], h, 0, 0)
                  refine k_steps HG 3 (zB_iff.mpr (?_ : G m3 _ (28, [(4, .inl (.int (v3_4 + (1 : Int32)))), (3, .inl (.int (v3_3 + (1 : Int32)))), (0, .inl (.ref q0)), (1, .inl (.int a1)), (2, .inl (.int y1))], [], h, 0, 0)))
                  refine k_ext HG (L' := [(0, .inl (.ref q0)), (1, .inl (.int a1)), (2, .inl (.int y1)), (3, .inl (.int (v3_3 + (1 : Int32)))), (4, .inl (.int (v3_4 + (1 : Int32))))]) rfl rfl ⟨rfl, rfl, rfl, rfl, rfl, trivial⟩ ?_
                  exact ih3 _ _
                · show G m3 _ (81, [(0, .inl (.ref q0)), (1, .inl (.int a1)), (2, .inl (.int y1)), (3, .inl (.int v3_3)), (4, .inl (.int v3_4))], [], h, 0, 0)
                  refine k_steps HG 2 (zB_iff.mpr (?_ : G m3 _ (84, [(0, .inl (.ref q0)), (1, .inl (.int a1)), (2, .inl (.int y1)), (3, .inl (.int v3_3)), (4, .inl (.int v3_4))], [.inl (.int (-5 : Int32)), .inl (.ref q0)], h, 0, 0)))
                  refine k_cVIH HG (E' := ze_X5_refuse) (Or.inl ⟨rfl, rfl⟩) hsc rfl rfl rfl rfl rfl K rfl (fun hh => x_X5_refuse hsc K.1 hq_q0 hh) (fun y10 K10 => (?_ : G m3 _ (87, [(0, .inl (.ref q0)), (1, .inl (.int a1)), (2, .inl (.int y1)), (3, .inl (.int v3_3)), (4, .inl (.int v3_4))], [.inl (.int y10.1)], y10.2, 0, 0)))
                  exact k_reti HG rfl rfl (fun e1 e2 => hR _ _ e1 e2 K10)
    refine k_ext HG (L' := [(0, .inl (.ref q0)), (1, .inl (.int a1)), (2, .inl (.int y1)), (3, .inl (.int (0 : Int32))), (4, .inl (.int (0 : Int32)))]) rfl rfl ⟨rfl, rfl, rfl, rfl, rfl, trivial⟩ ?_
    exact lp3 m (Nat.le_refl _) _ _
  · show G m _ (16, [(2, .inl (.int y1)), (0, .inl (.ref q0)), (1, .inl (.int a1))], [], h, 0, 0)
    refine k_steps HG 2 (zB_iff.mpr (?_ : G m _ (19, [(2, .inl (.int y1)), (0, .inl (.ref q0)), (1, .inl (.int a1))], [.inl (.int (-2 : Int32)), .inl (.ref q0)], h, 0, 0)))
    refine k_cVIH HG (E' := ze_X5_refuse) (Or.inl ⟨rfl, rfl⟩) hsc rfl rfl rfl rfl rfl K rfl (fun hh => x_X5_refuse hsc K.1 hq_q0 hh) (fun y11 K11 => (?_ : G m _ (22, [(2, .inl (.int y1)), (0, .inl (.ref q0)), (1, .inl (.int a1))], [.inl (.int y11.1)], y11.2, 0, 0)))
    exact k_reti HG rfl rfl (fun e1 e2 => hR _ _ e1 e2 K11)
