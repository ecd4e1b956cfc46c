def W_X2_readInto : List (Nat × Nat) := [(1, 0), (1, 1), (1, 2), (1, 3), (1, 7), (1, 8), (1, 14), (2, 2), (2, 3), (2, 4), (2, 5), (11, 1000), (12, 1000), (13, 1000), (14, 1000), (15, 1000), (16, 1000), (17, 1000)]
noncomputable def B_X2_readInto_13 (c0 : Nat) (c1 : Nat) (s : (Int32 × Int32 × zH)) : (Int32 × Int32 × zH) ⊕ (Int32 × zH) := (if (250 : Int32) < s.2.1 then (Sum.inr (((-20 : Int32) - (hv s.2.2 c0 3)), s.2.2)) else (letf (F_X2_readStatement s.2.2 c0 c1) (fun y1001 => (if y1001.1 = (0 : Int32) then (Sum.inr (((-20 : Int32) - (hv y1001.2 c0 3)), y1001.2)) else (if (hv y1001.2 c0 2) = (0 : Int32) then (Sum.inr ((s.1 + (1 : Int32)), y1001.2)) else (if (hv y1001.2 c0 2) = (3 : Int32) then (letf (F_X2_step y1001.2 c0) (fun h1002 => (Sum.inl ((s.1 + (1 : Int32)), (s.2.1 + (1 : Int32)), h1002)))) else (Sum.inr (((-20 : Int32) - (hv y1001.2 c0 3)), y1001.2))))))))
noncomputable def F_X2_readInto (h : zH) (q0 : Nat) (q1 : Nat) : Int32 × zH := (letf (hput h q0 4 (.inl (.int (0 : Int32)))) (fun h1 => (letf (F_X2_step h1 q0) (fun h2 => (fx (B_X2_readInto_13 q0 q1) (0, []) ((0 : Int32), (0 : Int32), h2))))))
theorem x_X2_readInto {scr : List zV} {T : List Nat} {h : zH} {q0 : Nat} {q1 : Nat} (hsc : cT scr) (K : hOK kty T h) (hq_q0 : T[q0]? = some 2) (hq_q1 : T[q1]? = some 1) (hh : cH h) : xIH scr W_X2_readInto T T 65 [.inl (.ref q0), .inl (.ref q1)] h (F_X2_readInto h q0 q1) := by
  refine xIH_intro (E := ze_X2_readInto) hsc rfl (cTb_ok rfl) hh (fun d r h' G HG Pf hR m => ?_)
  have K := kOK_refl (W := W_X2_readInto) K
  unfold F_X2_readInto
  show G m _ (0, [(0, .inl (.ref q0)), (1, .inl (.ref q1))], [], h, 0, 0)
  refine k_steps HG 2 (zB_iff.mpr (?_ : G m _ (2, [(0, .inl (.ref q0)), (1, .inl (.ref q1))], [.inl (.int (0 : Int32)), .inl (.ref q0)], h, 0, 0)))
  refine k_putI HG rfl K hq_q0 rfl rfl rfl (fun h1 K1 => (?_ : G m _ (5, [(0, .inl (.ref q0)), (1, .inl (.ref q1))], [], h1, 0, 0)))
  refine k_steps HG 1 (zB_iff.mpr (?_ : G m _ (6, [(0, .inl (.ref q0)), (1, .inl (.ref q1))], [.inl (.ref q0)], h1, 0, 0)))
  refine k_cVH HG (E' := ze_X2_step) (Or.inl ⟨rfl, rfl⟩) hsc rfl rfl rfl rfl rfl K1 rfl (fun hh => x_X2_step hsc K1.1 hq_q0 hh) (fun h2 K2 => (?_ : G m _ (9, [(0, .inl (.ref q0)), (1, .inl (.ref q1))], [], h2, 0, 0)))
  refine k_steps HG 4 (zB_iff.mpr (?_ : G m _ (13, [(3, .inl (.int (0 : Int32))), (2, .inl (.int (0 : Int32))), (0, .inl (.ref q0)), (1, .inl (.ref q1))], [], h2, 0, 0)))
  have lp3 : ∀ m3, m3 ≤ m → ∀ (v3_2 : Int32) (v3_3 : Int32) (h3 : zH), kOK W_X2_readInto T T h h3 → G m3 (Pf (fx (B_X2_readInto_13 q0 q1) (0, []) (v3_2, v3_3, h3))) (13, [(0, .inl (.ref q0)), (1, .inl (.ref q1)), (2, .inl (.int v3_2)), (3, .inl (.int v3_3))], [], h3, 0, 0) := by
    intro m3
    induction m3 with
    | zero =>
      intros
      exact k_zero HG
    | succ m3 ih3 =>
      intro le3 v3_2 v3_3 h3 K3
      have le3 := Nat.le_of_succ_le le3
      have ih3 := ih3 le3
      refine k_fx ?_
      rw [B_X2_readInto_13]
      refine k_first HG 2 (kb_gt (x := v3_3) (y := (250 : Int32)) ?_ ?_)
      · show G m3 _ (74, [(0, .inl (.ref q0)), (1, .inl (.ref q1)), (2, .inl (.int v3_2)), (3, .inl (.int v3_3))], [], h3, 0, 0)
        refine k_steps HG 2 (zB_iff.mpr (?_ : G m3 _ (77, [(0, .inl (.ref q0)), (1, .inl (.ref q1)), (2, .inl (.int v3_2)), (3, .inl (.int v3_3))], [.inl (.ref q0), .inl (.int (-20 : Int32))], h3, 0, 0)))
        refine k_getI HG rfl K3 hq_q0 rfl (Nat.le_of_ble_eq_true rfl) rfl (?_ : G m3 _ (80, [(0, .inl (.ref q0)), (1, .inl (.ref q1)), (2, .inl (.int v3_2)), (3, .inl (.int v3_3))], [.inl (.int (hv h3 q0 3)), .inl (.int (-20 : Int32))], h3, 0, 0))
        refine k_steps HG 1 (zB_iff.mpr (?_ : G m3 _ (81, [(0, .inl (.ref q0)), (1, .inl (.ref q1)), (2, .inl (.int v3_2)), (3, .inl (.int v3_3))], [.inl (.int ((-20 : Int32) - (hv h3 q0 3)))], h3, 0, 0)))
        exact k_reti HG rfl rfl (fun e1 e2 => hR _ _ e1 e2 K3)
      · show G m3 _ (20, [(0, .inl (.ref q0)), (1, .inl (.ref q1)), (2, .inl (.int v3_2)), (3, .inl (.int v3_3))], [], h3, 0, 0)
        refine k_steps HG 2 (zB_iff.mpr (?_ : G m3 _ (22, [(0, .inl (.ref q0)), (1, .inl (.ref q1)), (2, .inl (.int v3_2)), (3, .inl (.int v3_3))], [.inl (.ref q1), .inl (.ref q0)], h3, 0, 0)))
        refine k_cVIH HG (E' := ze_X2_readStatement) (Or.inl ⟨rfl, rfl⟩) hsc rfl rfl rfl rfl rfl K3 rfl (fun hh => x_X2_readStatement hsc K3.1 hq_q0 hq_q1 hh) (fun y4 K4 => (?_ : G m3 _ (25, [(0, .inl (.ref q0)), (1, .inl (.ref q1)), (2, .inl (.int v3_2)), (3, .inl (.int v3_3))], [.inl (.int y4.1)], y4.2, 0, 0)))
        refine k_steps HG 1 (kb_ne (x := y4.1) (y := (0 : Int32)) ?_ ?_)
        · show G m3 _ (36, [(0, .inl (.ref q0)), (1, .inl (.ref q1)), (2, .inl (.int v3_2)), (3, .inl (.int v3_3))], [], y4.2, 0, 0)
          refine k_steps HG 2 (zB_iff.mpr (?_ : G m3 _ (40, [(2, .inl (.int (v3_2 + (1 : Int32)))), (0, .inl (.ref q0)), (1, .inl (.ref q1)), (3, .inl (.int v3_3))], [.inl (.ref q0)], y4.2, 0, 0)))
          refine k_getI HG rfl K4 hq_q0 rfl (Nat.le_of_ble_eq_true rfl) rfl (?_ : G m3 _ (43, [(2, .inl (.int (v3_2 + (1 : Int32)))), (0, .inl (.ref q0)), (1, .inl (.ref q1)), (3, .inl (.int v3_3))], [.inl (.int (hv y4.2 q0 2))], y4.2, 0, 0))
          refine k_steps HG 1 (kb_ne (x := (hv y4.2 q0 2)) (y := (0 : Int32)) ?_ ?_)
          · show G m3 _ (48, [(2, .inl (.int (v3_2 + (1 : Int32)))), (0, .inl (.ref q0)), (1, .inl (.ref q1)), (3, .inl (.int v3_3))], [], y4.2, 0, 0)
            refine k_steps HG 1 (zB_iff.mpr (?_ : G m3 _ (49, [(2, .inl (.int (v3_2 + (1 : Int32)))), (0, .inl (.ref q0)), (1, .inl (.ref q1)), (3, .inl (.int v3_3))], [.inl (.ref q0)], y4.2, 0, 0)))
            refine k_getI HG rfl K4 hq_q0 rfl (Nat.le_of_ble_eq_true rfl) rfl (?_ : G m3 _ (52, [(2, .inl (.int (v3_2 + (1 : Int32)))), (0, .inl (.ref q0)), (1, .inl (.ref q1)), (3, .inl (.int v3_3))], [.inl (.int (hv y4.2 q0 2))], y4.2, 0, 0))
            refine k_steps HG 2 (kb_eq (x := (hv y4.2 q0 2)) (y := (3 : Int32)) ?_ ?_)
            · show G m3 _ (64, [(2, .inl (.int (v3_2 + (1 : Int32)))), (0, .inl (.ref q0)), (1, .inl (.ref q1)), (3, .inl (.int v3_3))], [], y4.2, 0, 0)
              refine k_steps HG 1 (zB_iff.mpr (?_ : G m3 _ (65, [(2, .inl (.int (v3_2 + (1 : Int32)))), (0, .inl (.ref q0)), (1, .inl (.ref q1)), (3, .inl (.int v3_3))], [.inl (.ref q0)], y4.2, 0, 0)))
              refine k_cVH HG (E' := ze_X2_step) (Or.inl ⟨rfl, rfl⟩) hsc rfl rfl rfl rfl rfl K4 rfl (fun hh => x_X2_step hsc K4.1 hq_q0 hh) (fun h5 K5 => (?_ : G m3 _ (68, [(2, .inl (.int (v3_2 + (1 : Int32)))), (0, .inl (.ref q0)), (1, .inl (.ref q1)), (3, .inl (.int v3_3))], [], h5, 0, 0)))
              refine k_steps HG 2 (zB_iff.mpr (?_ : G m3 _ (13, [(3, .inl (.int (v3_3 + (1 : Int32)))), (2, .inl (.int (v3_2 + (1 : Int32)))), (0, .inl (.ref q0)), (1, .inl (.ref q1))], [], h5, 0, 0)))
              refine k_ext HG (L' := [(0, .inl (.ref q0)), (1, .inl (.ref q1)), (2, .inl (.int (v3_2 + (1 : Int32)))), (3, .inl (.int (v3_3 + (1 : Int32))))]) rfl rfl ⟨rfl, rfl, rfl, rfl, trivial⟩ ?_
              exact ih3 _ _ _ K5
            · show G m3 _ (56, [(2, .inl (.int (v3_2 + (1 : Int32)))), (0, .inl (.ref q0)), (1, .inl (.ref q1)), (3, .inl (.int v3_3))], [], y4.2, 0, 0)
              refine k_steps HG 2 (zB_iff.mpr (?_ : G m3 _ (59, [(2, .inl (.int (v3_2 + (1 : Int32)))), (0, .inl (.ref q0)), (1, .inl (.ref q1)), (3, .inl (.int v3_3))], [.inl (.ref q0), .inl (.int (-20 : Int32))], y4.2, 0, 0)))
              refine k_getI HG rfl K4 hq_q0 rfl (Nat.le_of_ble_eq_true rfl) rfl (?_ : G m3 _ (62, [(2, .inl (.int (v3_2 + (1 : Int32)))), (0, .inl (.ref q0)), (1, .inl (.ref q1)), (3, .inl (.int v3_3))], [.inl (.int (hv y4.2 q0 3)), .inl (.int (-20 : Int32))], y4.2, 0, 0))
              refine k_steps HG 1 (zB_iff.mpr (?_ : G m3 _ (63, [(2, .inl (.int (v3_2 + (1 : Int32)))), (0, .inl (.ref q0)), (1, .inl (.ref q1)), (3, .inl (.int v3_3))], [.inl (.int ((-20 : Int32) - (hv y4.2 q0 3)))], y4.2, 0, 0)))
              exact k_reti HG rfl rfl (fun e1 e2 => hR _ _ e1 e2 K4)
          · show G m3 _ (46, [(2, .inl (.int (v3_2 + (1 : Int32)))), (0, .inl (.ref q0)), (1, .inl (.ref q1)), (3, .inl (.int v3_3))], [], y4.2, 0, 0)
            refine k_steps HG 1 (zB_iff.mpr (?_ : G m3 _ (47, [(2, .inl (.int (v3_2 + (1 : Int32)))), (0, .inl (.ref q0)), (1, .inl (.ref q1)), (3, .inl (.int v3_3))], [.inl (.int (v3_2 + (1 : Int32)))], y4.2, 0, 0)))
            exact k_reti HG rfl rfl (fun e1 e2 => hR _ _ e1 e2 K4)
        · show G m3 _ (28, [(0, .inl (.ref q0)), (1, .inl (.ref q1)), (2, .inl (.int v3_2)), (3, .inl (.int v3_3))], [], y4.2, 0, 0)
          refine k_steps HG 2 (zB_iff.mpr (?_ : G m3 _ (31, [(0, .inl (.ref q0)), (1, .inl (.ref q1)), (2, .inl (.int v3_2)), (3, .inl (.int v3_3))], [.inl (.ref q0), .inl (.int (-20 : Int32))], y4.2, 0, 0)))
          refine k_getI HG rfl K4 hq_q0 rfl (Nat.le_of_ble_eq_true rfl) rfl (?_ : G m3 _ (34, [(0, .inl (.ref q0)), (1, .inl (.ref q1)), (2, .inl (.int v3_2)), (3, .inl (.int v3_3))], [.inl (.int (hv y4.2 q0 3)), .inl (.int (-20 : Int32))], y4.2, 0, 0))
          refine k_steps HG 1 (zB_iff.mpr (?_ : G m3 _ (35, [(0, .inl (.ref q0)), (1, .inl (.ref q1)), (2, .inl (.int v3_2)), (3, .inl (.int v3_3))], [.inl (.int ((-20 : Int32) - (hv y4.2 q0 3)))], y4.2, 0, 0)))
          exact k_reti HG rfl rfl (fun e1 e2 => hR _ _ e1 e2 K4)
  refine k_ext HG (L' := [(0, .inl (.ref q0)), (1, .inl (.ref q1)), (2, .inl (.int (0 : Int32))), (3, .inl (.int (0 : Int32)))]) rfl rfl ⟨rfl, rfl, rfl, rfl, trivial⟩ ?_
  exact lp3 m (Nat.le_refl _) _ _ _ K2
def W_X3_fewestGoes : List (Nat × Nat) := [(3, 3), (3, 4), (3, 5), (3, 6), (19, 1000), (20, 1000)]
noncomputable def B_X3_fewestGoes_32 (c0 : Nat) (c1 : Nat) (c2 : Int32) (c3 : Int32) (s : (Int32 × zH)) : (Int32 × zH) ⊕ (Int32 × zH) := (if s.1 < (12 : Int32) then (letf (F_X1_thingsReady s.2 c1 ((hv s.2 c1 4) + s.1) (c3 - s.1)) (fun y1001 => (letf (F_X3_markNext s.2 c0 s.1 (c3 - s.1) y1001 ((1 : Int32) <<< (c2 &&& 31))) (fun y1002 => (if y1002.1 = (0 : Int32) then (Sum.inl ((s.1 + (1 : Int32)), y1002.2)) else (Sum.inr ((s.1 + (1 : Int32)), y1002.2))))))) else (Sum.inr ((-1 : Int32), s.2)))
noncomputable def F_X3_fewestGoes (h : zH) (q0 : Nat) (q1 : Nat) (a2 : Int32) : Int32 × zH := (letf (F_X3_lookAt h q0 q1) (fun h1 => (letf (F_X1_stands h1 q1 a2) (fun y2 => (if y2 = (0 : Int32) then ((0 : Int32), h1) else (letf (F_X3_mark h1 q0 (0 : Int32) (hv h1 q0 4)) (fun h3 => (letf (F_X1_countIn h3 q1) (fun y4 => (fx (B_X3_fewestGoes_32 q0 q1 a2 y4) (0, []) ((0 : Int32), h3)))))))))))
theorem x_X3_fewestGoes {scr : List zV} {T : List Nat} {h : zH} {q0 : Nat} {q1 : Nat} {a2 : Int32} (hsc : cT scr) (K : hOK kty T h) (hq_q0 : T[q0]? = some 3) (hq_q1 : T[q1]? = some 1) (hh : cH h) : xIH scr W_X3_fewestGoes T T 76 [.inl (.ref q0), .inl (.ref q1), .inl (.int a2)] h (F_X3_fewestGoes h q0 q1 a2) := by
  refine xIH_intro (E := ze_X3_fewestGoes) hsc rfl (cTb_ok rfl) hh (fun d r h' G HG Pf hR m => ?_)
  have K := kOK_refl (W := W_X3_fewestGoes) K
  unfold F_X3_fewestGoes
  show G m _ (0, [(0, .inl (.ref q0)), (1, .inl (.ref q1)), (2, .inl (.int a2))], [], h, 0, 0)
  refine k_steps HG 2 (zB_iff.mpr (?_ : G m _ (2, [(0, .inl (.ref q0)), (1, .inl (.ref q1)), (2, .inl (.int a2))], [.inl (.ref q1), .inl (.ref q0)], h, 0, 0)))
  refine k_cVH HG (E' := ze_X3_lookAt) (Or.inl ⟨rfl, rfl⟩) hsc rfl rfl rfl rfl rfl K rfl (fun hh => x_X3_lookAt hsc K.1 hq_q0 hq_q1 hh) (fun h1 K1 => (?_ : G m _ (5, [(0, .inl (.ref q0)), (1, .inl (.ref q1)), (2, .inl (.int a2))], [], h1, 0, 0)))
  refine k_steps HG 2 (zB_iff.mpr (?_ : G m _ (7, [(0, .inl (.ref q0)), (1, .inl (.ref q1)), (2, .inl (.int a2))], [.inl (.int a2), .inl (.ref q1)], h1, 0, 0)))
  refine k_cVI HG (E' := ze_X1_stands) (Or.inl ⟨rfl, rfl⟩) hsc rfl rfl rfl rfl rfl (fun hh => x_X1_stands hsc K1.1 hq_q1 hh) (fun y2 => (?_ : G m _ (10, [(0, .inl (.ref q0)), (1, .inl (.ref q1)), (2, .inl (.int a2))], [.inl (.int y2)], h1, 0, 0)))
  refine k_steps HG 1 (kb_ne (x := y2) (y := (0 : Int32)) ?_ ?_)
  · show G m _ (15, [(0, .inl (.ref q0)), (1, .inl (.ref q1)), (2, .inl (.int a2))], [], h1, 0, 0)
    refine k_steps HG 3 (zB_iff.mpr (?_ : G m _ (18, [(0, .inl (.ref q0)), (1, .inl (.ref q1)), (2, .inl (.int a2))], [.inl (.ref q0), .inl (.int (0 : Int32)), .inl (.ref q0)], h1, 0, 0)))
    refine k_getI HG rfl K1 hq_q0 rfl (Nat.le_of_ble_eq_true rfl) rfl (?_ : G m _ (21, [(0, .inl (.ref q0)), (1, .inl (.ref q1)), (2, .inl (.int a2))], [.inl (.int (hv h1 q0 4)), .inl (.int (0 : Int32)), .inl (.ref q0)], h1, 0, 0))
    refine k_cVH HG (E' := ze_X3_mark) (Or.inl ⟨rfl, rfl⟩) hsc rfl rfl rfl rfl rfl K1 rfl (fun hh => x_X3_mark hsc K1.1 hq_q0 hh) (fun h3 K3 => (?_ : G m _ (24, [(0, .inl (.ref q0)), (1, .inl (.ref q1)), (2, .inl (.int a2))], [], h3, 0, 0)))
    refine k_steps HG 1 (zB_iff.mpr (?_ : G m _ (25, [(0, .inl (.ref q0)), (1, .inl (.ref q1)), (2, .inl (.int a2))], [.inl (.ref q1)], h3, 0, 0)))
    refine k_cVI HG (E' := ze_X1_countIn) (Or.inl ⟨rfl, rfl⟩) hsc rfl rfl rfl rfl rfl (fun hh => x_X1_countIn hsc K3.1 hq_q1 hh) (fun y4 => (?_ : G m _ (28, [(0, .inl (.ref q0)), (1, .inl (.ref q1)), (2, .inl (.int a2))], [.inl (.int y4)], h3, 0, 0)))
    refine k_steps HG 3 (zB_iff.mpr (?_ : G m _ (32, [(4, .inl (.int (0 : Int32))), (3, .inl (.int y4)), (0, .inl (.ref q0)), (1, .inl (.ref q1)), (2, .inl (.int a2))], [], h3, 0, 0)))
    have lp5 : ∀ m5, m5 ≤ m → ∀ (v5_4 : Int32) (h5 : zH), kOK W_X3_fewestGoes T T h h5 → G m5 (Pf (fx (B_X3_fewestGoes_32 q0 q1 a2 y4) (0, []) (v5_4, h5))) (32, [(0, .inl (.ref q0)), (1, .inl (.ref q1)), (2, .inl (.int a2)), (3, .inl (.int y4)), (4, .inl (.int v5_4))], [], h5, 0, 0) := by
      intro m5
      induction m5 with
      | zero =>
        intros
        exact k_zero HG
      | succ m5 ih5 =>
        intro le5 v5_4 h5 K5
        have le5 := Nat.le_of_succ_le le5
        have ih5 := ih5 le5
        refine k_fx ?_
        rw [B_X3_fewestGoes_32]
        refine k_first HG 2 (kb_ge (x := v5_4) (y := (12 : Int32)) ?_ ?_)
        · show G m5 _ (81, [(0, .inl (.ref q0)), (1, .inl (.ref q1)), (2, .inl (.int a2)), (3, .inl (.int y4)), (4, .inl (.int v5_4))], [], h5, 0, 0)
          refine k_steps HG 1 (zB_iff.mpr (?_ : G m5 _ (82, [(0, .inl (.ref q0)), (1, .inl (.ref q1)), (2, .inl (.int a2)), (3, .inl (.int y4)), (4, .inl (.int v5_4))], [.inl (.int (-1 : Int32))], h5, 0, 0)))
          exact k_reti HG rfl rfl (fun e1 e2 => hR _ _ e1 e2 K5)
        · show G m5 _ (39, [(0, .inl (.ref q0)), (1, .inl (.ref q1)), (2, .inl (.int a2)), (3, .inl (.int y4)), (4, .inl (.int v5_4))], [], h5, 0, 0)
          refine k_steps HG 7 (zB_iff.mpr (?_ : G m5 _ (48, [(0, .inl (.ref q0)), (1, .inl (.ref q1)), (2, .inl (.int a2)), (3, .inl (.int y4)), (4, .inl (.int v5_4))], [.inl (.ref q1), .inl (.ref q1), .inl (.int (y4 - v5_4)), .inl (.int v5_4), .inl (.ref q0)], h5, 0, 0)))
          refine k_getI HG rfl K5 hq_q1 rfl (Nat.le_of_ble_eq_true rfl) rfl (?_ : G m5 _ (51, [(0, .inl (.ref q0)), (1, .inl (.ref q1)), (2, .inl (.int a2)), (3, .inl (.int y4)), (4, .inl (.int v5_4))], [.inl (.int (hv h5 q1 4)), .inl (.ref q1), .inl (.int (y4 - v5_4)), .inl (.int v5_4), .inl (.ref q0)], h5, 0, 0))
          refine k_steps HG 5 (zB_iff.mpr (?_ : G m5 _ (58, [(0, .inl (.ref q0)), (1, .inl (.ref q1)), (2, .inl (.int a2)), (3, .inl (.int y4)), (4, .inl (.int v5_4))], [.inl (.int (y4 - v5_4)), .inl (.int ((hv h5 q1 4) + v5_4)), .inl (.ref q1), .inl (.int (y4 - v5_4)), .inl (.int v5_4), .inl (.ref q0)], h5, 0, 0)))
          refine k_cVI HG (E' := ze_X1_thingsReady) (Or.inl ⟨rfl, rfl⟩) hsc rfl rfl rfl rfl rfl (fun hh => x_X1_thingsReady hsc K5.1 hq_q1 hh) (fun y6 => (?_ : G m5 _ (61, [(0, .inl (.ref q0)), (1, .inl (.ref q1)), (2, .inl (.int a2)), (3, .inl (.int y4)), (4, .inl (.int v5_4))], [.inl (.int y6), .inl (.int (y4 - v5_4)), .inl (.int v5_4), .inl (.ref q0)], h5, 0, 0)))
          refine k_steps HG 3 (zB_iff.mpr (?_ : G m5 _ (64, [(0, .inl (.ref q0)), (1, .inl (.ref q1)), (2, .inl (.int a2)), (3, .inl (.int y4)), (4, .inl (.int v5_4))], [.inl (.int ((1 : Int32) <<< (a2 &&& 31))), .inl (.int y6), .inl (.int (y4 - v5_4)), .inl (.int v5_4), .inl (.ref q0)], h5, 0, 0)))
          refine k_cVIH HG (E' := ze_X3_markNext) (Or.inl ⟨rfl, rfl⟩) hsc rfl rfl rfl rfl rfl K5 rfl (fun hh => x_X3_markNext hsc K5.1 hq_q0 hh) (fun y7 K7 => (?_ : G m5 _ (67, [(0, .inl (.ref q0)), (1, .inl (.ref q1)), (2, .inl (.int a2)), (3, .inl (.int y4)), (4, .inl (.int v5_4))], [.inl (.int y7.1)], y7.2, 0, 0)))
          refine k_steps HG 1 (kb_eq (x := y7.1) (y := (0 : Int32)) ?_ ?_)
          · show G m5 _ (75, [(0, .inl (.ref q0)), (1, .inl (.ref q1)), (2, .inl (.int a2)), (3, .inl (.int y4)), (4, .inl (.int v5_4))], [], y7.2, 0, 0)
            refine k_steps HG 2 (zB_iff.mpr (?_ : G m5 _ (32, [(4, .inl (.int (v5_4 + (1 : Int32)))), (0, .inl (.ref q0)), (1, .inl (.ref q1)), (2, .inl (.int a2)), (3, .inl (.int y4))], [], y7.2, 0, 0)))
            refine k_ext HG (L' := [(0, .inl (.ref q0)), (1, .inl (.ref q1)), (2, .inl (.int a2)), (3, .inl (.int y4)), (4, .inl (.int (v5_4 + (1 : Int32))))]) rfl rfl ⟨rfl, rfl, rfl, rfl, rfl, trivial⟩ ?_
            exact ih5 _ _ K7
          · show G m5 _ (70, [(0, .inl (.ref q0)), (1, .inl (.ref q1)), (2, .inl (.int a2)), (3, .inl (.int y4)), (4, .inl (.int v5_4))], [], y7.2, 0, 0)
            refine k_steps HG 3 (zB_iff.mpr (?_ : G m5 _ (74, [(0, .inl (.ref q0)), (1, .inl (.ref q1)), (2, .inl (.int a2)), (3, .inl (.int y4)), (4, .inl (.int v5_4))], [.inl (.int (v5_4 + (1 : Int32)))], y7.2, 0, 0)))
            exact k_reti HG rfl rfl (fun e1 e2 => hR _ _ e1 e2 K7)
    refine k_ext HG (L' := [(0, .inl (.ref q0)), (1, .inl (.ref q1)), (2, .inl (.int a2)), (3, .inl (.int y4)), (4, .inl (.int (0 : Int32)))]) rfl rfl ⟨rfl, rfl, rfl, rfl, rfl, trivial⟩ ?_
    exact lp5 m (Nat.le_refl _) _ _ K3
  · show G m _ (13, [(0, .inl (.ref q0)), (1, .inl (.ref q1)), (2, .inl (.int a2))], [], h1, 0, 0)
    refine k_steps HG 1 (zB_iff.mpr (?_ : G m _ (14, [(0, .inl (.ref q0)), (1, .inl (.ref q1)), (2, .inl (.int a2))], [.inl (.int (0 : Int32))], h1, 0, 0)))
    exact k_reti HG rfl rfl (fun e1 e2 => hR _ _ e1 e2 K1)
def W_X3_fill : List (Nat × Nat) := [(3, 3), (3, 4), (3, 5), (3, 6), (19, 1000), (20, 1000), (21, 1000)]
noncomputable def B_X3_fill_22 (c0 : Nat) (c1 : Nat) (c2 : Int32) (c3 : Int32) (c4 : Int32) (c5 : Int32) (s : (Int32 × zH)) : (Int32 × zH) ⊕ (zH) := (if s.1 < (0 : Int32) then (Sum.inr s.2) else (letf (F_X1_thingsReady s.2 c1 ((hv s.2 c1 4) + s.1) (c5 - s.1)) (fun y1001 => (letf (F_X3_fillLayer s.2 c0 s.1 (c5 - s.1) y1001 c4) (fun h1002 => (Sum.inl ((s.1 + (-1 : Int32)), h1002)))))))
noncomputable def F_X3_fill (h : zH) (q0 : Nat) (q1 : Nat) (a2 : Int32) (a3 : Int32) (a4 : Int32) : zH := (letf (F_X3_lookAt h q0 q1) (fun h1 => (letf (F_X3_weigh h1 q0 q1 a2) (fun h2 => (letf (F_X1_countIn h2 q1) (fun y3 => (fx (B_X3_fill_22 q0 q1 a2 a3 a4 y3) [] ((a3 - (1 : Int32)), h2))))))))
theorem x_X3_fill {scr : List zV} {T : List Nat} {h : zH} {q0 : Nat} {q1 : Nat} {a2 : Int32} {a3 : Int32} {a4 : Int32} (hsc : cT scr) (K : hOK kty T h) (hq_q0 : T[q0]? = some 3) (hq_q1 : T[q1]? = some 1) (hh : cH h) : xH scr W_X3_fill T T 77 [.inl (.ref q0), .inl (.ref q1), .inl (.int a2), .inl (.int a3), .inl (.int a4)] h (F_X3_fill h q0 q1 a2 a3 a4) := by
  refine xH_intro (E := ze_X3_fill) hsc rfl (cTb_ok rfl) hh (fun d r h' G HG Pf hR m => ?_)
  have K := kOK_refl (W := W_X3_fill) K
  unfold F_X3_fill
  show G m _ (0, [(0, .inl (.ref q0)), (1, .inl (.ref q1)), (2, .inl (.int a2)), (3, .inl (.int a3)), (4, .inl (.int a4))], [], h, 0, 0)
  refine k_steps HG 2 (zB_iff.mpr (?_ : G m _ (2, [(0, .inl (.ref q0)), (1, .inl (.ref q1)), (2, .inl (.int a2)), (3, .inl (.int a3)), (4, .inl (.int a4))], [.inl (.ref q1), .inl (.ref q0)], h, 0, 0)))
  refine k_cVH HG (E' := ze_X3_lookAt) (Or.inl ⟨rfl, rfl⟩) hsc rfl rfl rfl rfl rfl K rfl (fun hh => x_X3_lookAt hsc K.1 hq_q0 hq_q1 hh) (fun h1 K1 => (?_ : G m _ (5, [(0, .inl (.ref q0)), (1, .inl (.ref q1)), (2, .inl (.int a2)), (3, .inl (.int a3)), (4, .inl (.int a4))], [], h1, 0, 0)))
  refine k_steps HG 3 (zB_iff.mpr (?_ : G m _ (8, [(0, .inl (.ref q0)), (1, .inl (.ref q1)), (2, .inl (.int a2)), (3, .inl (.int a3)), (4, .inl (.int a4))], [.inl (.int a2), .inl (.ref q1), .inl (.ref q0)], h1, 0, 0)))
  refine k_cVH HG (E' := ze_X3_weigh) (Or.inl ⟨rfl, rfl⟩) hsc rfl rfl rfl rfl rfl K1 rfl (fun hh => x_X3_weigh hsc K1.1 hq_q0 hq_q1 hh) (fun h2 K2 => (?_ : G m _ (11, [(0, .inl (.ref q0)), (1, .inl (.ref q1)), (2, .inl (.int a2)), (3, .inl (.int a3)), (4, .inl (.int a4))], [], h2, 0, 0)))
  refine k_steps HG 1 (zB_iff.mpr (?_ : G m _ (12, [(0, .inl (.ref q0)), (1, .inl (.ref q1)), (2, .inl (.int a2)), (3, .inl (.int a3)), (4, .inl (.int a4))], [.inl (.ref q1)], h2, 0, 0)))
  refine k_cVI HG (E' := ze_X1_countIn) (Or.inl ⟨rfl, rfl⟩) hsc rfl rfl rfl rfl rfl (fun hh => x_X1_countIn hsc K2.1 hq_q1 hh) (fun y3 => (?_ : G m _ (15, [(0, .inl (.ref q0)), (1, .inl (.ref q1)), (2, .inl (.int a2)), (3, .inl (.int a3)), (4, .inl (.int a4))], [.inl (.int y3)], h2, 0, 0)))
  refine k_steps HG 5 (zB_iff.mpr (?_ : G m _ (22, [(6, .inl (.int (a3 - (1 : Int32)))), (5, .inl (.int y3)), (0, .inl (.ref q0)), (1, .inl (.ref q1)), (2, .inl (.int a2)), (3, .inl (.int a3)), (4, .inl (.int a4))], [], h2, 0, 0)))
  have lp4 : ∀ m4, m4 ≤ m → ∀ (v4_6 : Int32) (h4 : zH), kOK W_X3_fill T T h h4 → G m4 (Pf (fx (B_X3_fill_22 q0 q1 a2 a3 a4 y3) [] (v4_6, h4))) (22, [(0, .inl (.ref q0)), (1, .inl (.ref q1)), (2, .inl (.int a2)), (3, .inl (.int a3)), (4, .inl (.int a4)), (5, .inl (.int y3)), (6, .inl (.int v4_6))], [], h4, 0, 0) := by
    intro m4
    induction m4 with
    | zero =>
      intros
      exact k_zero HG
    | succ m4 ih4 =>
      intro le4 v4_6 h4 K4
      have le4 := Nat.le_of_succ_le le4
      have ih4 := ih4 le4
      refine k_fx ?_
      rw [B_X3_fill_22]
      refine k_first HG 1 (kb_lt (x := v4_6) (y := (0 : Int32)) ?_ ?_)
      · show G m4 _ (62, [(0, .inl (.ref q0)), (1, .inl (.ref q1)), (2, .inl (.int a2)), (3, .inl (.int a3)), (4, .inl (.int a4)), (5, .inl (.int y3)), (6, .inl (.int v4_6))], [], h4, 0, 0)
        exact k_retv HG rfl rfl (fun e1 e2 => hR _ e1 e2 K4)
      · show G m4 _ (27, [(0, .inl (.ref q0)), (1, .inl (.ref q1)), (2, .inl (.int a2)), (3, .inl (.int a3)), (4, .inl (.int a4)), (5, .inl (.int y3)), (6, .inl (.int v4_6))], [], h4, 0, 0)
        refine k_steps HG 7 (zB_iff.mpr (?_ : G m4 _ (37, [(0, .inl (.ref q0)), (1, .inl (.ref q1)), (2, .inl (.int a2)), (3, .inl (.int a3)), (4, .inl (.int a4)), (5, .inl (.int y3)), (6, .inl (.int v4_6))], [.inl (.ref q1), .inl (.ref q1), .inl (.int (y3 - v4_6)), .inl (.int v4_6), .inl (.ref q0)], h4, 0, 0)))
        refine k_getI HG rfl K4 hq_q1 rfl (Nat.le_of_ble_eq_true rfl) rfl (?_ : G m4 _ (40, [(0, .inl (.ref q0)), (1, .inl (.ref q1)), (2, .inl (.int a2)), (3, .inl (.int a3)), (4, .inl (.int a4)), (5, .inl (.int y3)), (6, .inl (.int v4_6))], [.inl (.int (hv h4 q1 4)), .inl (.ref q1), .inl (.int (y3 - v4_6)), .inl (.int v4_6), .inl (.ref q0)], h4, 0, 0))
        refine k_steps HG 5 (zB_iff.mpr (?_ : G m4 _ (48, [(0, .inl (.ref q0)), (1, .inl (.ref q1)), (2, .inl (.int a2)), (3, .inl (.int a3)), (4, .inl (.int a4)), (5, .inl (.int y3)), (6, .inl (.int v4_6))], [.inl (.int (y3 - v4_6)), .inl (.int ((hv h4 q1 4) + v4_6)), .inl (.ref q1), .inl (.int (y3 - v4_6)), .inl (.int v4_6), .inl (.ref q0)], h4, 0, 0)))
        refine k_cVI HG (E' := ze_X1_thingsReady) (Or.inl ⟨rfl, rfl⟩) hsc rfl rfl rfl rfl rfl (fun hh => x_X1_thingsReady hsc K4.1 hq_q1 hh) (fun y5 => (?_ : G m4 _ (51, [(0, .inl (.ref q0)), (1, .inl (.ref q1)), (2, .inl (.int a2)), (3, .inl (.int a3)), (4, .inl (.int a4)), (5, .inl (.int y3)), (6, .inl (.int v4_6))], [.inl (.int y5), .inl (.int (y3 - v4_6)), .inl (.int v4_6), .inl (.ref q0)], h4, 0, 0)))
        refine k_steps HG 1 (zB_iff.mpr (?_ : G m4 _ (53, [(0, .inl (.ref q0)), (1, .inl (.ref q1)), (2, .inl (.int a2)), (3, .inl (.int a3)), (4, .inl (.int a4)), (5, .inl (.int y3)), (6, .inl (.int v4_6))], [.inl (.int a4), .inl (.int y5), .inl (.int (y3 - v4_6)), .inl (.int v4_6), .inl (.ref q0)], h4, 0, 0)))
        refine k_cVH HG (E' := ze_X3_fillLayer) (Or.inl ⟨rfl, rfl⟩) hsc rfl rfl rfl rfl rfl K4 rfl (fun hh => x_X3_fillLayer hsc K4.1 hq_q0 hh) (fun h6 K6 => (?_ : G m4 _ (56, [(0, .inl (.ref q0)), (1, .inl (.ref q1)), (2, .inl (.int a2)), (3, .inl (.int a3)), (4, .inl (.int a4)), (5, .inl (.int y3)), (6, .inl (.int v4_6))], [], h6, 0, 0)))
        refine k_steps HG 2 (zB_iff.mpr (?_ : G m4 _ (22, [(6, .inl (.int (v4_6 + (-1 : Int32)))), (0, .inl (.ref q0)), (1, .inl (.ref q1)), (2, .inl (.int a2)), (3, .inl (.int a3)), (4, .inl (.int a4)), (5, .inl (.int y3))], [], h6, 0, 0)))
        refine k_ext HG (L' := [(0, .inl (.ref q0)), (1, .inl (.ref q1)), (2, .inl (.int a2)), (3, .inl (.int a3)), (4, .inl (.int a4)), (5, .inl (.int y3)), (6, .inl (.int (v4_6 + (-1 : Int32))))]) rfl rfl ⟨rfl, rfl, rfl, rfl, rfl, rfl, rfl, trivial⟩ ?_
        exact ih4 _ _ K6
  refine k_ext HG (L' := [(0, .inl (.ref q0)), (1, .inl (.ref q1)), (2, .inl (.int a2)), (3, .inl (.int a3)), (4, .inl (.int a4)), (5, .inl (.int y3)), (6, .inl (.int (a3 - (1 : Int32))))]) rfl rfl ⟨rfl, rfl, rfl, rfl, rfl, rfl, rfl, trivial⟩ ?_
  exact lp4 m (Nat.le_refl _) _ _ K2
def W_X4_firstWrong : List (Nat × Nat) := [(1, 0), (1, 1), (1, 2), (1, 3), (1, 4), (1, 5), (1, 6), (1, 7), (1, 8), (1, 14), (11, 1000), (12, 1000), (13, 1000), (14, 1000), (15, 1000), (16, 1000), (17, 1000)]
noncomputable def B_X4_firstWrong_14 (c0 : Nat) (c1 : Int32) (c2 : Int32) (c3 : Int32) (s : (Int32 × zH)) : (Int32 × zH) ⊕ (Int32 × zH) := (if s.1 < c2 then (letf (F_X4_isShelf c1) (fun y1001 => (if y1001 = (0 : Int32) then (letf (F_X1_canBeDrawn s.2 (hr s.2 c0 2) (0 : Int32)) (fun y1003 => (if y1003 = (0 : Int32) then (Sum.inr (s.1, s.2)) else (letf (F_X1_draw s.2 (hr s.2 c0 2) (0 : Int32) c3) (fun h1005 => (Sum.inl ((s.1 + (1 : Int32)), h1005))))))) else (letf (F_X0_slipAt s.2 (hr s.2 (hr s.2 c0 5) c1.toNatClampNeg) s.1) (fun y1008 => (letf (F_X1_canBeDrawn s.2 (hr s.2 c0 2) y1008) (fun y1010 => (if y1010 = (0 : Int32) then (Sum.inr (s.1, s.2)) else (letf (F_X1_draw s.2 (hr s.2 c0 2) y1008 c3) (fun h1012 => (Sum.inl ((s.1 + (1 : Int32)), h1012)))))))))))) else (Sum.inr ((-1 : Int32), s.2)))
noncomputable def F_X4_firstWrong (h : zH) (q0 : Nat) (a1 : Int32) (a2 : Int32) (a3 : Int32) : Int32 × zH := (letf (F_X1_become h (hr h q0 2) (hr h q0 0)) (fun h3 => (fx (B_X4_firstWrong_14 q0 a1 a2 a3) (0, []) ((0 : Int32), h3))))
theorem x_X4_firstWrong {scr : List zV} {T : List Nat} {h : zH} {q0 : Nat} {a1 : Int32} {a2 : Int32} {a3 : Int32} (hsc : cT scr) (K : hOK kty T h) (hq_q0 : T[q0]? = some 4) (hh : cH h) : xIH scr W_X4_firstWrong T T 107 [.inl (.ref q0), .inl (.int a1), .inl (.int a2), .inl (.int a3)] h (F_X4_firstWrong h q0 a1 a2 a3) := by
  refine xIH_intro (E := ze_X4_firstWrong) hsc rfl (cTb_ok rfl) hh (fun d r h' G HG Pf hR m => ?_)
  have K := kOK_refl (W := W_X4_firstWrong) K
  unfold F_X4_firstWrong
  show G m _ (0, [(0, .inl (.ref q0)), (1, .inl (.int a1)), (2, .inl (.int a2)), (3, .inl (.int a3))], [], h, 0, 0)
  refine k_steps HG 1 (zB_iff.mpr (?_ : G m _ (1, [(0, .inl (.ref q0)), (1, .inl (.int a1)), (2, .inl (.int a2)), (3, .inl (.int a3))], [.inl (.ref q0)], h, 0, 0)))
  refine k_getR HG rfl K hq_q0 rfl (Nat.le_of_ble_eq_true rfl) rfl rfl (fun t1 => (?_ : G m _ (4, [(0, .inl (.ref q0)), (1, .inl (.int a1)), (2, .inl (.int a2)), (3, .inl (.int a3))], [.inl (.ref (hr h q0 2))], h, 0, 0)))
  refine k_steps HG 1 (zB_iff.mpr (?_ : G m _ (5, [(0, .inl (.ref q0)), (1, .inl (.int a1)), (2, .inl (.int a2)), (3, .inl (.int a3))], [.inl (.ref q0), .inl (.ref (hr h q0 2))], h, 0, 0)))
  refine k_getR HG rfl K hq_q0 rfl (Nat.le_of_ble_eq_true rfl) rfl rfl (fun t2 => (?_ : G m _ (8, [(0, .inl (.ref q0)), (1, .inl (.int a1)), (2, .inl (.int a2)), (3, .inl (.int a3))], [.inl (.ref (hr h q0 0)), .inl (.ref (hr h q0 2))], h, 0, 0)))
  refine k_cVH HG (E' := ze_X1_become) (Or.inl ⟨rfl, rfl⟩) hsc rfl rfl rfl rfl rfl K rfl (fun hh => x_X1_become hsc K.1 t1 t2 hh) (fun h3 K3 => (?_ : G m _ (11, [(0, .inl (.ref q0)), (1, .inl (.int a1)), (2, .inl (.int a2)), (3, .inl (.int a3))], [], h3, 0, 0)))
  refine k_steps HG 2 (zB_iff.mpr (?_ : G m _ (14, [(4, .inl (.int (0 : Int32))), (0, .inl (.ref q0)), (1, .inl (.int a1)), (2, .inl (.int a2)), (3, .inl (.int a3))], [], h3, 0, 0)))
  have lp4 : ∀ m4, m4 ≤ m → ∀ (d4_5 : Int32) (v4_4 : Int32) (h4 : zH), kOK W_X4_firstWrong T T h h4 → G m4 (Pf (fx (B_X4_firstWrong_14 q0 a1 a2 a3) (0, []) (v4_4, h4))) (14, [(0, .inl (.ref q0)), (1, .inl (.int a1)), (2, .inl (.int a2)), (3, .inl (.int a3)), (4, .inl (.int v4_4)), (5, .inl (.int d4_5))], [], h4, 0, 0) := by
    intro m4
    induction m4 with
    | zero =>
      intros
      exact k_zero HG
    | succ m4 ih4 =>
      intro le4 d4_5 v4_4 h4 K4
      have le4 := Nat.le_of_succ_le le4
      have ih4 := ih4 le4
      refine k_fx ?_
      rw [B_X4_firstWrong_14]
      refine k_first HG 2 (kb_ge (x := v4_4) (y := a2) ?_ ?_)
      · show G m4 _ (75, [(0, .inl (.ref q0)), (1, .inl (.int a1)), (2, .inl (.int a2)), (3, .inl (.int a3)), (4, .inl (.int v4_4)), (5, .inl (.int d4_5))], [], h4, 0, 0)
        refine k_steps HG 1 (zB_iff.mpr (?_ : G m4 _ (76, [(0, .inl (.ref q0)), (1, .inl (.int a1)), (2, .inl (.int a2)), (3, .inl (.int a3)), (4, .inl (.int v4_4)), (5, .inl (.int d4_5))], [.inl (.int (-1 : Int32))], h4, 0, 0)))
        exact k_reti HG rfl rfl (fun e1 e2 => hR _ _ e1 e2 K4)
      · show G m4 _ (20, [(0, .inl (.ref q0)), (1, .inl (.int a1)), (2, .inl (.int a2)), (3, .inl (.int a3)), (4, .inl (.int v4_4)), (5, .inl (.int d4_5))], [], h4, 0, 0)
        refine k_steps HG 1 (zB_iff.mpr (?_ : G m4 _ (21, [(0, .inl (.ref q0)), (1, .inl (.int a1)), (2, .inl (.int a2)), (3, .inl (.int a3)), (4, .inl (.int v4_4)), (5, .inl (.int d4_5))], [.inl (.int a1)], h4, 0, 0)))
        refine k_cSI HG (E' := ze_X4_isShelf) (Or.inl rfl) hsc rfl rfl rfl rfl (fun hh => x_X4_isShelf hsc hh) (fun y5 => (?_ : G m4 _ (24, [(0, .inl (.ref q0)), (1, .inl (.int a1)), (2, .inl (.int a2)), (3, .inl (.int a3)), (4, .inl (.int v4_4)), (5, .inl (.int d4_5))], [.inl (.int y5)], h4, 0, 0)))
        refine k_steps HG 1 (kb_eq (x := y5) (y := (0 : Int32)) ?_ ?_)
        · show G m4 _ (41, [(0, .inl (.ref q0)), (1, .inl (.int a1)), (2, .inl (.int a2)), (3, .inl (.int a3)), (4, .inl (.int v4_4)), (5, .inl (.int d4_5))], [], h4, 0, 0)
          refine k_steps HG 3 (zB_iff.mpr (?_ : G m4 _ (45, [(5, .inl (.int (0 : Int32))), (0, .inl (.ref q0)), (1, .inl (.int a1)), (2, .inl (.int a2)), (3, .inl (.int a3)), (4, .inl (.int v4_4))], [.inl (.ref q0)], h4, 0, 0)))
          refine k_getR HG rfl K4 hq_q0 rfl (Nat.le_of_ble_eq_true rfl) rfl rfl (fun t6 => (?_ : G m4 _ (48, [(5, .inl (.int (0 : Int32))), (0, .inl (.ref q0)), (1, .inl (.int a1)), (2, .inl (.int a2)), (3, .inl (.int a3)), (4, .inl (.int v4_4))], [.inl (.ref (hr h4 q0 2))], h4, 0, 0)))
          refine k_steps HG 1 (zB_iff.mpr (?_ : G m4 _ (50, [(5, .inl (.int (0 : Int32))), (0, .inl (.ref q0)), (1, .inl (.int a1)), (2, .inl (.int a2)), (3, .inl (.int a3)), (4, .inl (.int v4_4))], [.inl (.int (0 : Int32)), .inl (.ref (hr h4 q0 2))], h4, 0, 0)))
          refine k_cVI HG (E' := ze_X1_canBeDrawn) (Or.inl ⟨rfl, rfl⟩) hsc rfl rfl rfl rfl rfl (fun hh => x_X1_canBeDrawn hsc K4.1 t6 hh) (fun y7 => (?_ : G m4 _ (53, [(5, .inl (.int (0 : Int32))), (0, .inl (.ref q0)), (1, .inl (.int a1)), (2, .inl (.int a2)), (3, .inl (.int a3)), (4, .inl (.int v4_4))], [.inl (.int y7)], h4, 0, 0)))
          refine k_steps HG 1 (kb_ne (x := y7) (y := (0 : Int32)) ?_ ?_)
          · show G m4 _ (59, [(5, .inl (.int (0 : Int32))), (0, .inl (.ref q0)), (1, .inl (.int a1)), (2, .inl (.int a2)), (3, .inl (.int a3)), (4, .inl (.int v4_4))], [], h4, 0, 0)
            refine k_steps HG 1 (zB_iff.mpr (?_ : G m4 _ (60, [(5, .inl (.int (0 : Int32))), (0, .inl (.ref q0)), (1, .inl (.int a1)), (2, .inl (.int a2)), (3, .inl (.int a3)), (4, .inl (.int v4_4))], [.inl (.ref q0)], h4, 0, 0)))
            refine k_getR HG rfl K4 hq_q0 rfl (Nat.le_of_ble_eq_true rfl) rfl rfl (fun t8 => (?_ : G m4 _ (63, [(5, .inl (.int (0 : Int32))), (0, .inl (.ref q0)), (1, .inl (.int a1)), (2, .inl (.int a2)), (3, .inl (.int a3)), (4, .inl (.int v4_4))], [.inl (.ref (hr h4 q0 2))], h4, 0, 0)))
            refine k_steps HG 2 (zB_iff.mpr (?_ : G m4 _ (66, [(5, .inl (.int (0 : Int32))), (0, .inl (.ref q0)), (1, .inl (.int a1)), (2, .inl (.int a2)), (3, .inl (.int a3)), (4, .inl (.int v4_4))], [.inl (.int a3), .inl (.int (0 : Int32)), .inl (.ref (hr h4 q0 2))], h4, 0, 0)))
            refine k_cVH HG (E' := ze_X1_draw) (Or.inl ⟨rfl, rfl⟩) hsc rfl rfl rfl rfl rfl K4 rfl (fun hh => x_X1_draw hsc K4.1 t8 hh) (fun h9 K9 => (?_ : G m4 _ (69, [(5, .inl (.int (0 : Int32))), (0, .inl (.ref q0)), (1, .inl (.int a1)), (2, .inl (.int a2)), (3, .inl (.int a3)), (4, .inl (.int v4_4))], [], h9, 0, 0)))
            refine k_steps HG 2 (zB_iff.mpr (?_ : G m4 _ (14, [(4, .inl (.int (v4_4 + (1 : Int32)))), (5, .inl (.int (0 : Int32))), (0, .inl (.ref q0)), (1, .inl (.int a1)), (2, .inl (.int a2)), (3, .inl (.int a3))], [], h9, 0, 0)))
            refine k_ext HG (L' := [(0, .inl (.ref q0)), (1, .inl (.int a1)), (2, .inl (.int a2)), (3, .inl (.int a3)), (4, .inl (.int (v4_4 + (1 : Int32)))), (5, .inl (.int (0 : Int32)))]) rfl rfl ⟨rfl, rfl, rfl, rfl, rfl, rfl, trivial⟩ ?_
            exact ih4 _ _ _ K9
          · show G m4 _ (56, [(5, .inl (.int (0 : Int32))), (0, .inl (.ref q0)), (1, .inl (.int a1)), (2, .inl (.int a2)), (3, .inl (.int a3)), (4, .inl (.int v4_4))], [], h4, 0, 0)
            refine k_steps HG 1 (zB_iff.mpr (?_ : G m4 _ (58, [(5, .inl (.int (0 : Int32))), (0, .inl (.ref q0)), (1, .inl (.int a1)), (2, .inl (.int a2)), (3, .inl (.int a3)), (4, .inl (.int v4_4))], [.inl (.int v4_4)], h4, 0, 0)))
            exact k_reti HG rfl rfl (fun e1 e2 => hR _ _ e1 e2 K4)
        · show G m4 _ (27, [(0, .inl (.ref q0)), (1, .inl (.int a1)), (2, .inl (.int a2)), (3, .inl (.int a3)), (4, .inl (.int v4_4)), (5, .inl (.int d4_5))], [], h4, 0, 0)
          refine k_steps HG 1 (zB_iff.mpr (?_ : G m4 _ (28, [(0, .inl (.ref q0)), (1, .inl (.int a1)), (2, .inl (.int a2)), (3, .inl (.int a3)), (4, .inl (.int v4_4)), (5, .inl (.int d4_5))], [.inl (.ref q0)], h4, 0, 0)))
          refine k_getR HG rfl K4 hq_q0 rfl (Nat.le_of_ble_eq_true rfl) rfl rfl (fun t10 => (?_ : G m4 _ (31, [(0, .inl (.ref q0)), (1, .inl (.int a1)), (2, .inl (.int a2)), (3, .inl (.int a3)), (4, .inl (.int v4_4)), (5, .inl (.int d4_5))], [.inl (.ref (hr h4 q0 5))], h4, 0, 0)))
          refine k_steps HG 1 (zB_iff.mpr (?_ : G m4 _ (32, [(0, .inl (.ref q0)), (1, .inl (.int a1)), (2, .inl (.int a2)), (3, .inl (.int a3)), (4, .inl (.int v4_4)), (5, .inl (.int d4_5))], [.inl (.int a1), .inl (.ref (hr h4 q0 5))], h4, 0, 0)))
          refine k_aald HG rfl K4 t10 (fun _ => ⟨rfl, rfl⟩) (fun t11 => (?_ : G m4 _ (33, [(0, .inl (.ref q0)), (1, .inl (.int a1)), (2, .inl (.int a2)), (3, .inl (.int a3)), (4, .inl (.int v4_4)), (5, .inl (.int d4_5))], [.inl (.ref (hr h4 (hr h4 q0 5) a1.toNatClampNeg))], h4, 0, 0)))
          refine k_steps HG 1 (zB_iff.mpr (?_ : G m4 _ (35, [(0, .inl (.ref q0)), (1, .inl (.int a1)), (2, .inl (.int a2)), (3, .inl (.int a3)), (4, .inl (.int v4_4)), (5, .inl (.int d4_5))], [.inl (.int v4_4), .inl (.ref (hr h4 (hr h4 q0 5) a1.toNatClampNeg))], h4, 0, 0)))
          refine k_cVI HG (E' := ze_X0_slipAt) (Or.inl ⟨rfl, rfl⟩) hsc rfl rfl rfl rfl rfl (fun hh => x_X0_slipAt hsc K4.1 t11 hh) (fun y12 => (?_ : G m4 _ (38, [(0, .inl (.ref q0)), (1, .inl (.int a1)), (2, .inl (.int a2)), (3, .inl (.int a3)), (4, .inl (.int v4_4)), (5, .inl (.int d4_5))], [.inl (.int y12)], h4, 0, 0)))
          refine k_steps HG 3 (zB_iff.mpr (?_ : G m4 _ (45, [(5, .inl (.int y12)), (0, .inl (.ref q0)), (1, .inl (.int a1)), (2, .inl (.int a2)), (3, .inl (.int a3)), (4, .inl (.int v4_4))], [.inl (.ref q0)], h4, 0, 0)))
          refine k_getR HG rfl K4 hq_q0 rfl (Nat.le_of_ble_eq_true rfl) rfl rfl (fun t13 => (?_ : G m4 _ (48, [(5, .inl (.int y12)), (0, .inl (.ref q0)), (1, .inl (.int a1)), (2, .inl (.int a2)), (3, .inl (.int a3)), (4, .inl (.int v4_4))], [.inl (.ref (hr h4 q0 2))], h4, 0, 0)))
          refine k_steps HG 1 (zB_iff.mpr (?_ : G m4 _ (50, [(5, .inl (.int y12)), (0, .inl (.ref q0)), (1, .inl (.int a1)), (2, .inl (.int a2)), (3, .inl (.int a3)), (4, .inl (.int v4_4))], [.inl (.int y12), .inl (.ref (hr h4 q0 2))], h4, 0, 0)))
          refine k_cVI HG (E' := ze_X1_canBeDrawn) (Or.inl ⟨rfl, rfl⟩) hsc rfl rfl rfl rfl rfl (fun hh => x_X1_canBeDrawn hsc K4.1 t13 hh) (fun y14 => (?_ : G m4 _ (53, [(5, .inl (.int y12)), (0, .inl (.ref q0)), (1, .inl (.int a1)), (2, .inl (.int a2)), (3, .inl (.int a3)), (4, .inl (.int v4_4))], [.inl (.int y14)], h4, 0, 0)))
          refine k_steps HG 1 (kb_ne (x := y14) (y := (0 : Int32)) ?_ ?_)
          · show G m4 _ (59, [(5, .inl (.int y12)), (0, .inl (.ref q0)), (1, .inl (.int a1)), (2, .inl (.int a2)), (3, .inl (.int a3)), (4, .inl (.int v4_4))], [], h4, 0, 0)
            refine k_steps HG 1 (zB_iff.mpr (?_ : G m4 _ (60, [(5, .inl (.int y12)), (0, .inl (.ref q0)), (1, .inl (.int a1)), (2, .inl (.int a2)), (3, .inl (.int a3)), (4, .inl (.int v4_4))], [.inl (.ref q0)], h4, 0, 0)))
            refine k_getR HG rfl K4 hq_q0 rfl (Nat.le_of_ble_eq_true rfl) rfl rfl (fun t15 => (?_ : G m4 _ (63, [(5, .inl (.int y12)), (0, .inl (.ref q0)), (1, .inl (.int a1)), (2, .inl (.int a2)), (3, .inl (.int a3)), (4, .inl (.int v4_4))], [.inl (.ref (hr h4 q0 2))], h4, 0, 0)))
            refine k_steps HG 2 (zB_iff.mpr (?_ : G m4 _ (66, [(5, .inl (.int y12)), (0, .inl (.ref q0)), (1, .inl (.int a1)), (2, .inl (.int a2)), (3, .inl (.int a3)), (4, .inl (.int v4_4))], [.inl (.int a3), .inl (.int y12), .inl (.ref (hr h4 q0 2))], h4, 0, 0)))
            refine k_cVH HG (E' := ze_X1_draw) (Or.inl ⟨rfl, rfl⟩) hsc rfl rfl rfl rfl rfl K4 rfl (fun hh => x_X1_draw hsc K4.1 t15 hh) (fun h16 K16 => (?_ : G m4 _ (69, [(5, .inl (.int y12)), (0, .inl (.ref q0)), (1, .inl (.int a1)), (2, .inl (.int a2)), (3, .inl (.int a3)), (4, .inl (.int v4_4))], [], h16, 0, 0)))
            refine k_steps HG 2 (zB_iff.mpr (?_ : G m4 _ (14, [(4, .inl (.int (v4_4 + (1 : Int32)))), (5, .inl (.int y12)), (0, .inl (.ref q0)), (1, .inl (.int a1)), (2, .inl (.int a2)), (3, .inl (.int a3))], [], h16, 0, 0)))
            refine k_ext HG (L' := [(0, .inl (.ref q0)), (1, .inl (.int a1)), (2, .inl (.int a2)), (3, .inl (.int a3)), (4, .inl (.int (v4_4 + (1 : Int32)))), (5, .inl (.int y12))]) rfl rfl ⟨rfl, rfl, rfl, rfl, rfl, rfl, trivial⟩ ?_
            exact ih4 _ _ _ K16
          · show G m4 _ (56, [(5, .inl (.int y12)), (0, .inl (.ref q0)), (1, .inl (.int a1)), (2, .inl (.int a2)), (3, .inl (.int a3)), (4, .inl (.int v4_4))], [], h4, 0, 0)
            refine k_steps HG 1 (zB_iff.mpr (?_ : G m4 _ (58, [(5, .inl (.int y12)), (0, .inl (.ref q0)), (1, .inl (.int a1)), (2, .inl (.int a2)), (3, .inl (.int a3)), (4, .inl (.int v4_4))], [.inl (.int v4_4)], h4, 0, 0)))
            exact k_reti HG rfl rfl (fun e1 e2 => hR _ _ e1 e2 K4)
  refine k_ext HG (L' := [(0, .inl (.ref q0)), (1, .inl (.int a1)), (2, .inl (.int a2)), (3, .inl (.int a3)), (4, .inl (.int (0 : Int32))), (5, .inl (.int (0 : Int32)))]) rfl rfl ⟨rfl, rfl, rfl, rfl, rfl, trivial⟩ ?_
  exact lp4 m (Nat.le_refl _) _ _ _ K3
def W_X4_five : List (Nat × Nat) := [(1, 4), (1, 5), (1, 6), (1, 7), (14, 1000), (15, 1000), (16, 1000), (23, 1000)]
noncomputable def B_X4_five_79 (c0 : Nat) (c1 : Int32) (c2 : Int32) (s : (Int32 × zH)) : (Int32 × zH) ⊕ (Int32 × zH) := (if s.1 < (5 : Int32) then (letf (F_X1_countDrawable s.2 (hr s.2 c0 0)) (fun y1004 => (if (0 : Int32) < y1004 then (letf (F_X1_slipByDraw s.2 (hr s.2 c0 0)) (fun y1009 => (letf (F_X1_draw y1009.2 (hr s.2 c0 0) y1009.1 c1) (fun h1010 => (Sum.inl ((s.1 + (1 : Int32)), h1010)))))) else (letf (F_X1_standing s.2 (hr s.2 c0 0)) (fun y1006 => (Sum.inr ((c2 &&& (y1006 ^^^ (-1 : Int32))), s.2))))))) else (letf (F_X1_standing s.2 (hr s.2 c0 0)) (fun y1002 => (Sum.inr ((c2 &&& (y1002 ^^^ (-1 : Int32))), s.2)))))
noncomputable def F_X4_five (h : zH) (q0 : Nat) (a1 : Int32) : Int32 × zH := (letf (F_X1_isBuyer h (hr h q0 0) a1) (fun y2 => (if y2 = (0 : Int32) then (letf (F_X4_refuse h q0 (-2 : Int32)) (fun y26 => (y26.1, y26.2))) else (if (hv h (hr h (hr h q0 0) 15) a1.toNatClampNeg) < (hv h (hr h q0 0) 3) then (letf (F_X4_refuse h q0 (-5 : Int32)) (fun y6 => (y6.1, y6.2))) else (letf (F_X1_countDrawable h (hr h q0 0)) (fun y8 => (if y8 = (0 : Int32) then (letf (F_X4_refuse h q0 (-5 : Int32)) (fun y25 => (y25.1, y25.2))) else (letf (F_X1_standing h (hr h q0 0)) (fun y10 => (letf (F_X1_pay h (hr h q0 0) a1 (hv h (hr h q0 0) 3)) (fun h13 => (fx (B_X4_five_79 q0 a1 y10) (0, []) ((0 : Int32), h13)))))))))))))
theorem x_X4_five {scr : List zV} {T : List Nat} {h : zH} {q0 : Nat} {a1 : Int32} (hsc : cT scr) (K : hOK kty T h) (hq_q0 : T[q0]? = some 4) (hh : cH h) : xIH scr W_X4_five T T 108 [.inl (.ref q0), .inl (.int a1)] h (F_X4_five h q0 a1) := by
  refine xIH_intro (E := ze_X4_five) hsc rfl (cTb_ok rfl) hh (fun d r h' G HG Pf hR m => ?_)
  have K := kOK_refl (W := W_X4_five) K
  unfold F_X4_five
  show G m _ (0, [(0, .inl (.ref q0)), (1, .inl (.int a1))], [], h, 0, 0)
  refine k_steps HG 1 (zB_iff.mpr (?_ : G m _ (1, [(0, .inl (.ref q0)), (1, .inl (.int a1))], [.inl (.ref q0)], h, 0, 0)))
  refine k_getR HG rfl K hq_q0 rfl (Nat.le_of_ble_eq_true rfl) rfl rfl (fun t1 => (?_ : G m _ (4, [(0, .inl (.ref q0)), (1, .inl (.int a1))], [.inl (.ref (hr h q0 0))], h, 0, 0)))
  refine k_steps HG 1 (zB_iff.mpr (?_ : G m _ (5, [(0, .inl (.ref q0)), (1, .inl (.int a1))], [.inl (.int a1), .inl (.ref (hr h q0 0))], h, 0, 0)))
  refine k_cVI HG (E' := ze_X1_isBuyer) (Or.inl ⟨rfl, rfl⟩) hsc rfl rfl rfl rfl rfl (fun hh => x_X1_isBuyer hsc K.1 t1 hh) (fun y2 => (?_ : G m _ (8, [(0, .inl (.ref q0)), (1, .inl (.int a1))], [.inl (.int y2)], h, 0, 0)))
  refine k_steps HG 1 (kb_ne (x := y2) (y := (0 : Int32)) ?_ ?_)
  · show G m _ (18, [(0, .inl (.ref q0)), (1, .inl (.int a1))], [], h, 0, 0)
    refine k_steps HG 1 (zB_iff.mpr (?_ : G m _ (19, [(0, .inl (.ref q0)), (1, .inl (.int a1))], [.inl (.ref q0)], h, 0, 0)))
    refine k_getR HG rfl K hq_q0 rfl (Nat.le_of_ble_eq_true rfl) rfl rfl (fun t3 => (?_ : G m _ (22, [(0, .inl (.ref q0)), (1, .inl (.int a1))], [.inl (.ref (hr h q0 0))], h, 0, 0)))
    refine k_getR HG rfl K t3 rfl (Nat.le_of_ble_eq_true rfl) rfl rfl (fun t4 => (?_ : G m _ (25, [(0, .inl (.ref q0)), (1, .inl (.int a1))], [.inl (.ref (hr h (hr h q0 0) 15))], h, 0, 0)))
    refine k_steps HG 1 (zB_iff.mpr (?_ : G m _ (26, [(0, .inl (.ref q0)), (1, .inl (.int a1))], [.inl (.int a1), .inl (.ref (hr h (hr h q0 0) 15))], h, 0, 0)))
    refine k_iald HG rfl K t4 rfl (fun _ => rfl) (?_ : G m _ (27, [(0, .inl (.ref q0)), (1, .inl (.int a1))], [.inl (.int (hv h (hr h (hr h q0 0) 15) a1.toNatClampNeg))], h, 0, 0))
    refine k_steps HG 1 (zB_iff.mpr (?_ : G m _ (28, [(0, .inl (.ref q0)), (1, .inl (.int a1))], [.inl (.ref q0), .inl (.int (hv h (hr h (hr h q0 0) 15) a1.toNatClampNeg))], h, 0, 0)))
    refine k_getR HG rfl K hq_q0 rfl (Nat.le_of_ble_eq_true rfl) rfl rfl (fun t5 => (?_ : G m _ (31, [(0, .inl (.ref q0)), (1, .inl (.int a1))], [.inl (.ref (hr h q0 0)), .inl (.int (hv h (hr h (hr h q0 0) 15) a1.toNatClampNeg))], h, 0, 0)))
    refine k_getI HG rfl K t5 rfl (Nat.le_of_ble_eq_true rfl) rfl (?_ : G m _ (34, [(0, .inl (.ref q0)), (1, .inl (.int a1))], [.inl (.int (hv h (hr h q0 0) 3)), .inl (.int (hv h (hr h (hr h q0 0) 15) a1.toNatClampNeg))], h, 0, 0))
    refine k_steps HG 1 (kb_lt (x := (hv h (hr h (hr h q0 0) 15) a1.toNatClampNeg)) (y := (hv h (hr h q0 0) 3)) ?_ ?_)
    · show G m _ (47, [(0, .inl (.ref q0)), (1, .inl (.int a1))], [], h, 0, 0)
      refine k_steps HG 2 (zB_iff.mpr (?_ : G m _ (50, [(0, .inl (.ref q0)), (1, .inl (.int a1))], [.inl (.int (-5 : Int32)), .inl (.ref q0)], h, 0, 0)))
      refine k_cVIH HG (E' := ze_X4_refuse) (Or.inl ⟨rfl, rfl⟩) hsc rfl rfl rfl rfl rfl K rfl (fun hh => x_X4_refuse hsc K.1 hq_q0 hh) (fun y6 K6 => (?_ : G m _ (53, [(0, .inl (.ref q0)), (1, .inl (.int a1))], [.inl (.int y6.1)], y6.2, 0, 0)))
      exact k_reti HG rfl rfl (fun e1 e2 => hR _ _ e1 e2 K6)
    · show G m _ (37, [(0, .inl (.ref q0)), (1, .inl (.int a1))], [], h, 0, 0)
      refine k_steps HG 1 (zB_iff.mpr (?_ : G m _ (38, [(0, .inl (.ref q0)), (1, .inl (.int a1))], [.inl (.ref q0)], h, 0, 0)))
      refine k_getR HG rfl K hq_q0 rfl (Nat.le_of_ble_eq_true rfl) rfl rfl (fun t7 => (?_ : G m _ (41, [(0, .inl (.ref q0)), (1, .inl (.int a1))], [.inl (.ref (hr h q0 0))], h, 0, 0)))
      refine k_cVI HG (E' := ze_X1_countDrawable) (Or.inl ⟨rfl, rfl⟩) hsc rfl rfl rfl rfl rfl (fun hh => x_X1_countDrawable hsc K.1 t7 hh) (fun y8 => (?_ : G m _ (44, [(0, .inl (.ref q0)), (1, .inl (.int a1))], [.inl (.int y8)], h, 0, 0)))
      refine k_steps HG 1 (kb_ne (x := y8) (y := (0 : Int32)) ?_ ?_)
      · show G m _ (54, [(0, .inl (.ref q0)), (1, .inl (.int a1))], [], h, 0, 0)
        refine k_steps HG 1 (zB_iff.mpr (?_ : G m _ (55, [(0, .inl (.ref q0)), (1, .inl (.int a1))], [.inl (.ref q0)], h, 0, 0)))
        refine k_getR HG rfl K hq_q0 rfl (Nat.le_of_ble_eq_true rfl) rfl rfl (fun t9 => (?_ : G m _ (58, [(0, .inl (.ref q0)), (1, .inl (.int a1))], [.inl (.ref (hr h q0 0))], h, 0, 0)))
        refine k_cVI HG (E' := ze_X1_standing) (Or.inl ⟨rfl, rfl⟩) hsc rfl rfl rfl rfl rfl (fun hh => x_X1_standing hsc K.1 t9 hh) (fun y10 => (?_ : G m _ (61, [(0, .inl (.ref q0)), (1, .inl (.int a1))], [.inl (.int y10)], h, 0, 0)))
        refine k_steps HG 2 (zB_iff.mpr (?_ : G m _ (63, [(2, .inl (.int y10)), (0, .inl (.ref q0)), (1, .inl (.int a1))], [.inl (.ref q0)], h, 0, 0)))
        refine k_getR HG rfl K hq_q0 rfl (Nat.le_of_ble_eq_true rfl) rfl rfl (fun t11 => (?_ : G m _ (66, [(2, .inl (.int y10)), (0, .inl (.ref q0)), (1, .inl (.int a1))], [.inl (.ref (hr h q0 0))], h, 0, 0)))
        refine k_steps HG 2 (zB_iff.mpr (?_ : G m _ (68, [(2, .inl (.int y10)), (0, .inl (.ref q0)), (1, .inl (.int a1))], [.inl (.ref q0), .inl (.int a1), .inl (.ref (hr h q0 0))], h, 0, 0)))
        refine k_getR HG rfl K hq_q0 rfl (Nat.le_of_ble_eq_true rfl) rfl rfl (fun t12 => (?_ : G m _ (71, [(2, .inl (.int y10)), (0, .inl (.ref q0)), (1, .inl (.int a1))], [.inl (.ref (hr h q0 0)), .inl (.int a1), .inl (.ref (hr h q0 0))], h, 0, 0)))
        refine k_getI HG rfl K t12 rfl (Nat.le_of_ble_eq_true rfl) rfl (?_ : G m _ (74, [(2, .inl (.int y10)), (0, .inl (.ref q0)), (1, .inl (.int a1))], [.inl (.int (hv h (hr h q0 0) 3)), .inl (.int a1), .inl (.ref (hr h q0 0))], h, 0, 0))
        refine k_cVH HG (E' := ze_X1_pay) (Or.inl ⟨rfl, rfl⟩) hsc rfl rfl rfl rfl rfl K rfl (fun hh => x_X1_pay hsc K.1 t12 hh) (fun h13 K13 => (?_ : G m _ (77, [(2, .inl (.int y10)), (0, .inl (.ref q0)), (1, .inl (.int a1))], [], h13, 0, 0)))
        refine k_steps HG 2 (zB_iff.mpr (?_ : G m _ (79, [(3, .inl (.int (0 : Int32))), (2, .inl (.int y10)), (0, .inl (.ref q0)), (1, .inl (.int a1))], [], h13, 0, 0)))
        have lp14 : ∀ m14, m14 ≤ m → ∀ (v14_3 : Int32) (h14 : zH), kOK W_X4_five T T h h14 → G m14 (Pf (fx (B_X4_five_79 q0 a1 y10) (0, []) (v14_3, h14))) (79, [(0, .inl (.ref q0)), (1, .inl (.int a1)), (2, .inl (.int y10)), (3, .inl (.int v14_3))], [], h14, 0, 0) := by
          intro m14
          induction m14 with
          | zero =>
            intros
            exact k_zero HG
          | succ m14 ih14 =>
            intro le14 v14_3 h14 K14
            have le14 := Nat.le_of_succ_le le14
            have ih14 := ih14 le14
            refine k_fx ?_
            rw [B_X4_five_79]
            refine k_first HG 2 (kb_ge (x := v14_3) (y := (5 : Int32)) ?_ ?_)
            · show G m14 _ (115, [(0, .inl (.ref q0)), (1, .inl (.int a1)), (2, .inl (.int y10)), (3, .inl (.int v14_3))], [], h14, 0, 0)
              refine k_steps HG 2 (zB_iff.mpr (?_ : G m14 _ (117, [(0, .inl (.ref q0)), (1, .inl (.int a1)), (2, .inl (.int y10)), (3, .inl (.int v14_3))], [.inl (.ref q0), .inl (.int y10)], h14, 0, 0)))
              refine k_getR HG rfl K14 hq_q0 rfl (Nat.le_of_ble_eq_true rfl) rfl rfl (fun t15 => (?_ : G m14 _ (120, [(0, .inl (.ref q0)), (1, .inl (.int a1)), (2, .inl (.int y10)), (3, .inl (.int v14_3))], [.inl (.ref (hr h14 q0 0)), .inl (.int y10)], h14, 0, 0)))
              refine k_cVI HG (E' := ze_X1_standing) (Or.inl ⟨rfl, rfl⟩) hsc rfl rfl rfl rfl rfl (fun hh => x_X1_standing hsc K14.1 t15 hh) (fun y16 => (?_ : G m14 _ (123, [(0, .inl (.ref q0)), (1, .inl (.int a1)), (2, .inl (.int y10)), (3, .inl (.int v14_3))], [.inl (.int y16), .inl (.int y10)], h14, 0, 0)))
              refine k_steps HG 3 (zB_iff.mpr (?_ : G m14 _ (126, [(0, .inl (.ref q0)), (1, .inl (.int a1)), (2, .inl (.int y10)), (3, .inl (.int v14_3))], [.inl (.int (y10 &&& (y16 ^^^ (-1 : Int32))))], h14, 0, 0)))
              exact k_reti HG rfl rfl (fun e1 e2 => hR _ _ e1 e2 K14)
            · show G m14 _ (84, [(0, .inl (.ref q0)), (1, .inl (.int a1)), (2, .inl (.int y10)), (3, .inl (.int v14_3))], [], h14, 0, 0)
              refine k_steps HG 1 (zB_iff.mpr (?_ : G m14 _ (85, [(0, .inl (.ref q0)), (1, .inl (.int a1)), (2, .inl (.int y10)), (3, .inl (.int v14_3))], [.inl (.ref q0)], h14, 0, 0)))
              refine k_getR HG rfl K14 hq_q0 rfl (Nat.le_of_ble_eq_true rfl) rfl rfl (fun t17 => (?_ : G m14 _ (88, [(0, .inl (.ref q0)), (1, .inl (.int a1)), (2, .inl (.int y10)), (3, .inl (.int v14_3))], [.inl (.ref (hr h14 q0 0))], h14, 0, 0)))
              refine k_cVI HG (E' := ze_X1_countDrawable) (Or.inl ⟨rfl, rfl⟩) hsc rfl rfl rfl rfl rfl (fun hh => x_X1_countDrawable hsc K14.1 t17 hh) (fun y18 => (?_ : G m14 _ (91, [(0, .inl (.ref q0)), (1, .inl (.int a1)), (2, .inl (.int y10)), (3, .inl (.int v14_3))], [.inl (.int y18)], h14, 0, 0)))
              refine k_steps HG 1 (kb_le (x := y18) (y := (0 : Int32)) ?_ ?_)
              · show G m14 _ (115, [(0, .inl (.ref q0)), (1, .inl (.int a1)), (2, .inl (.int y10)), (3, .inl (.int v14_3))], [], h14, 0, 0)
                refine k_steps HG 2 (zB_iff.mpr (?_ : G m14 _ (117, [(0, .inl (.ref q0)), (1, .inl (.int a1)), (2, .inl (.int y10)), (3, .inl (.int v14_3))], [.inl (.ref q0), .inl (.int y10)], h14, 0, 0)))
                refine k_getR HG rfl K14 hq_q0 rfl (Nat.le_of_ble_eq_true rfl) rfl rfl (fun t19 => (?_ : G m14 _ (120, [(0, .inl (.ref q0)), (1, .inl (.int a1)), (2, .inl (.int y10)), (3, .inl (.int v14_3))], [.inl (.ref (hr h14 q0 0)), .inl (.int y10)], h14, 0, 0)))
                refine k_cVI HG (E' := ze_X1_standing) (Or.inl ⟨rfl, rfl⟩) hsc rfl rfl rfl rfl rfl (fun hh => x_X1_standing hsc K14.1 t19 hh) (fun y20 => (?_ : G m14 _ (123, [(0, .inl (.ref q0)), (1, .inl (.int a1)), (2, .inl (.int y10)), (3, .inl (.int v14_3))], [.inl (.int y20), .inl (.int y10)], h14, 0, 0)))
                refine k_steps HG 3 (zB_iff.mpr (?_ : G m14 _ (126, [(0, .inl (.ref q0)), (1, .inl (.int a1)), (2, .inl (.int y10)), (3, .inl (.int v14_3))], [.inl (.int (y10 &&& (y20 ^^^ (-1 : Int32))))], h14, 0, 0)))
                exact k_reti HG rfl rfl (fun e1 e2 => hR _ _ e1 e2 K14)
              · show G m14 _ (94, [(0, .inl (.ref q0)), (1, .inl (.int a1)), (2, .inl (.int y10)), (3, .inl (.int v14_3))], [], h14, 0, 0)
                refine k_steps HG 1 (zB_iff.mpr (?_ : G m14 _ (95, [(0, .inl (.ref q0)), (1, .inl (.int a1)), (2, .inl (.int y10)), (3, .inl (.int v14_3))], [.inl (.ref q0)], h14, 0, 0)))
                refine k_getR HG rfl K14 hq_q0 rfl (Nat.le_of_ble_eq_true rfl) rfl rfl (fun t21 => (?_ : G m14 _ (98, [(0, .inl (.ref q0)), (1, .inl (.int a1)), (2, .inl (.int y10)), (3, .inl (.int v14_3))], [.inl (.ref (hr h14 q0 0))], h14, 0, 0)))
                refine k_steps HG 1 (zB_iff.mpr (?_ : G m14 _ (99, [(0, .inl (.ref q0)), (1, .inl (.int a1)), (2, .inl (.int y10)), (3, .inl (.int v14_3))], [.inl (.ref q0), .inl (.ref (hr h14 q0 0))], h14, 0, 0)))
                refine k_getR HG rfl K14 hq_q0 rfl (Nat.le_of_ble_eq_true rfl) rfl rfl (fun t22 => (?_ : G m14 _ (102, [(0, .inl (.ref q0)), (1, .inl (.int a1)), (2, .inl (.int y10)), (3, .inl (.int v14_3))], [.inl (.ref (hr h14 q0 0)), .inl (.ref (hr h14 q0 0))], h14, 0, 0)))
                refine k_cVIH HG (E' := ze_X1_slipByDraw) (Or.inl ⟨rfl, rfl⟩) hsc rfl rfl rfl rfl rfl K14 rfl (fun hh => x_X1_slipByDraw hsc K14.1 t22 hh) (fun y23 K23 => (?_ : G m14 _ (105, [(0, .inl (.ref q0)), (1, .inl (.int a1)), (2, .inl (.int y10)), (3, .inl (.int v14_3))], [.inl (.int y23.1), .inl (.ref (hr h14 q0 0))], y23.2, 0, 0)))
                refine k_steps HG 1 (zB_iff.mpr (?_ : G m14 _ (106, [(0, .inl (.ref q0)), (1, .inl (.int a1)), (2, .inl (.int y10)), (3, .inl (.int v14_3))], [.inl (.int a1), .inl (.int y23.1), .inl (.ref (hr h14 q0 0))], y23.2, 0, 0)))
                refine k_cVH HG (E' := ze_X1_draw) (Or.inl ⟨rfl, rfl⟩) hsc rfl rfl rfl rfl rfl K23 rfl (fun hh => x_X1_draw hsc K23.1 t22 hh) (fun h24 K24 => (?_ : G m14 _ (109, [(0, .inl (.ref q0)), (1, .inl (.int a1)), (2, .inl (.int y10)), (3, .inl (.int v14_3))], [], h24, 0, 0)))
                refine k_steps HG 2 (zB_iff.mpr (?_ : G m14 _ (79, [(3, .inl (.int (v14_3 + (1 : Int32)))), (0, .inl (.ref q0)), (1, .inl (.int a1)), (2, .inl (.int y10))], [], h24, 0, 0)))
                refine k_ext HG (L' := [(0, .inl (.ref q0)), (1, .inl (.int a1)), (2, .inl (.int y10)), (3, .inl (.int (v14_3 + (1 : Int32))))]) rfl rfl ⟨rfl, rfl, rfl, rfl, trivial⟩ ?_
                exact ih14 _ _ K24
        refine k_ext HG (L' := [(0, .inl (.ref q0)), (1, .inl (.int a1)), (2, .inl (.int y10)), (3, .inl (.int (0 : Int32)))]) rfl rfl ⟨rfl, rfl, rfl, rfl, trivial⟩ ?_
        exact lp14 m (Nat.le_refl _) _ _ K13
      · show G m _ (47, [(0, .inl (.ref q0)), (1, .inl (.int a1))], [], h, 0, 0)
        refine k_steps HG 2 (zB_iff.mpr (?_ : G m _ (50, [(0, .inl (.ref q0)), (1, .inl (.int a1))], [.inl (.int (-5 : Int32)), .inl (.ref q0)], h, 0, 0)))
        refine k_cVIH HG (E' := ze_X4_refuse) (Or.inl ⟨rfl, rfl⟩) hsc rfl rfl rfl rfl rfl K rfl (fun hh => x_X4_refuse hsc K.1 hq_q0 hh) (fun y25 K25 => (?_ : G m _ (53, [(0, .inl (.ref q0)), (1, .inl (.int a1))], [.inl (.int y25.1)], y25.2, 0, 0)))
        exact k_reti HG rfl rfl (fun e1 e2 => hR _ _ e1 e2 K25)
  · show G m _ (11, [(0, .inl (.ref q0)), (1, .inl (.int a1))], [], h, 0, 0)
    refine k_steps HG 2 (zB_iff.mpr (?_ : G m _ (14, [(0, .inl (.ref q0)), (1, .inl (.int a1))], [.inl (.int (-2 : Int32)), .inl (.ref q0)], h, 0, 0)))
    refine k_cVIH HG (E' := ze_X4_refuse) (Or.inl ⟨rfl, rfl⟩) hsc rfl rfl rfl rfl rfl K rfl (fun hh => x_X4_refuse hsc K.1 hq_q0 hh) (fun y26 K26 => (?_ : G m _ (17, [(0, .inl (.ref q0)), (1, .inl (.int a1))], [.inl (.int y26.1)], y26.2, 0, 0)))
    exact k_reti HG rfl rfl (fun e1 e2 => hR _ _ e1 e2 K26)
