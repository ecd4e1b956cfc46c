def W_X5_beginValuesA : List (Nat × Nat) := [(5, 36), (5, 37), (5, 38), (5, 39), (42, 1000)]
noncomputable def B_X5_beginValuesA_31 (c0 : Nat) (c1 : Int32) (c2 : Int32) (c3 : Int32) (s : (Int32 × zH)) : (Int32 × zH) ⊕ ((Int32 × zH) ⊕ (zH)) := (if s.1 < (256 : Int32) then (letf (hput s.2 (hr s.2 (hr s.2 c0 35) c3.toNatClampNeg) s.1.toNatClampNeg (.inl (.long (-1 : Int64)))) (fun h2003 => (Sum.inl ((s.1 + (1 : Int32)), h2003)))) else (Sum.inr (Sum.inl ((c3 + (1 : Int32)), s.2))))
noncomputable def B_X5_beginValuesA_22 (c0 : Nat) (c1 : Int32) (c2 : Int32) (s : (Int32 × zH)) : (Int32 × zH) ⊕ (zH) := (if (61 : Int32) < s.1 then (letf (hput s.2 c0 36 (.inl (.int c1))) (fun h1001 => (letf (hput h1001 c0 37 (.inl (.int (hv h1001 c0 13)))) (fun h1002 => (letf (F_X5_inside h1002 c0) (fun y1003 => (letf (hput h1002 c0 38 (.inl (.int y1003))) (fun h1004 => (letf (hput h1004 c0 39 (.inl (.int c2))) (fun h1005 => (Sum.inr h1005))))))))))) else (fx (B_X5_beginValuesA_31 c0 c1 c2 s.1) (Sum.inr []) ((0 : Int32), s.2)))
noncomputable def J_X5_beginValuesA_j20 (h : zH) (c0 : Nat) (c1 : Int32) (c2 : Int32) : zH := (fx (B_X5_beginValuesA_22 c0 c1 c2) [] ((0 : Int32), h))
theorem w_X5_beginValuesA_j20 {scr : List zV} {T0 T : List Nat} {d m nc ns : Nat} {r : Option zV} {h' h h0 : zH} {G : Nat → Prop → zS → Prop} {Pf : zH → Prop} {c0 : Nat} {c1 : Int32} {c2 : Int32} (HG : G = GL ze_X5_beginValues scr (zEc ze_X5_beginValues) (zEs ze_X5_beginValues) (zD zprog scr d) r h') (hsc : cT scr) (hR : ∀ hh, (none : Option zV) = r → hh = h' → kOK W_X5_beginValuesA T0 T h0 hh → (fun v => kN T v c0 35 41) hh → Pf hh) (K : kOK W_X5_beginValuesA T0 T h0 h) (V_35 : kN T h c0 35 41) (hq_c0 : T[c0]? = some 5) : G m (Pf (J_X5_beginValuesA_j20 h c0 c1 c2)) (20, [(0, .inl (.ref c0)), (1, .inl (.int c1)), (2, .inl (.int c2))], [], h, nc, ns) := by
  have A := K
  have K := kOK_refl (W := W_X5_beginValuesA) A.1
  unfold J_X5_beginValuesA_j20
  refine k_steps HG 2 (zB_iff.mpr (?_ : G m _ (22, [(3, .inl (.int (0 : Int32))), (0, .inl (.ref c0)), (1, .inl (.int c1)), (2, .inl (.int c2))], [], h, nc, ns)))
  have lp7001 : ∀ m7001, m7001 ≤ m → ∀ (nc7001 : Nat) (ns7001 : Nat) (d7001_4 : Int32) (v7001_3 : Int32) (h7001 : zH), kOK W_X5_beginValuesA T T h h7001 → G m7001 (Pf (fx (B_X5_beginValuesA_22 c0 c1 c2) [] (v7001_3, h7001))) (22, [(0, .inl (.ref c0)), (1, .inl (.int c1)), (2, .inl (.int c2)), (3, .inl (.int v7001_3)), (4, .inl (.int d7001_4))], [], h7001, nc7001, ns7001) := by
    intro m7001
    induction m7001 with
    | zero =>
      intros
      exact k_zero HG
    | succ m7001 ih7001 =>
      intro le7001 nc7001 ns7001 d7001_4 v7001_3 h7001 K7001
      have le7001 := Nat.le_of_succ_le le7001
      have ih7001 := ih7001 le7001
      refine k_fx ?_
      rw [B_X5_beginValuesA_22]
      refine k_first HG 2 (kb_gt (x := v7001_3) (y := (61 : Int32)) ?_ ?_)
      · show G m7001 _ (63, [(0, .inl (.ref c0)), (1, .inl (.int c1)), (2, .inl (.int c2)), (3, .inl (.int v7001_3)), (4, .inl (.int d7001_4))], [], h7001, nc7001, ns7001)
        refine k_steps HG 2 (zB_iff.mpr (?_ : G m7001 _ (65, [(0, .inl (.ref c0)), (1, .inl (.int c1)), (2, .inl (.int c2)), (3, .inl (.int v7001_3)), (4, .inl (.int d7001_4))], [.inl (.int c1), .inl (.ref c0)], h7001, nc7001, ns7001)))
        refine k_putI HG rfl K7001 hq_c0 rfl rfl rfl (fun h7002 K7002 => (?_ : G m7001 _ (68, [(0, .inl (.ref c0)), (1, .inl (.int c1)), (2, .inl (.int c2)), (3, .inl (.int v7001_3)), (4, .inl (.int d7001_4))], [], h7002, nc7001, ns7001)))
        refine k_steps HG 2 (zB_iff.mpr (?_ : G m7001 _ (70, [(0, .inl (.ref c0)), (1, .inl (.int c1)), (2, .inl (.int c2)), (3, .inl (.int v7001_3)), (4, .inl (.int d7001_4))], [.inl (.ref c0), .inl (.ref c0)], h7002, nc7001, ns7001)))
        refine k_getI HG rfl K7002 hq_c0 rfl (Nat.le_of_ble_eq_true rfl) rfl (?_ : G m7001 _ (73, [(0, .inl (.ref c0)), (1, .inl (.int c1)), (2, .inl (.int c2)), (3, .inl (.int v7001_3)), (4, .inl (.int d7001_4))], [.inl (.int (hv h7002 c0 13)), .inl (.ref c0)], h7002, nc7001, ns7001))
        refine k_putI HG rfl K7002 hq_c0 rfl rfl rfl (fun h7003 K7003 => (?_ : G m7001 _ (76, [(0, .inl (.ref c0)), (1, .inl (.int c1)), (2, .inl (.int c2)), (3, .inl (.int v7001_3)), (4, .inl (.int d7001_4))], [], h7003, nc7001, ns7001)))
        refine k_steps HG 2 (zB_iff.mpr (?_ : G m7001 _ (78, [(0, .inl (.ref c0)), (1, .inl (.int c1)), (2, .inl (.int c2)), (3, .inl (.int v7001_3)), (4, .inl (.int d7001_4))], [.inl (.ref c0), .inl (.ref c0)], h7003, nc7001, ns7001)))
        refine k_cVI HG (E' := ze_X5_inside) (Or.inl ⟨rfl, rfl⟩) hsc rfl rfl rfl rfl rfl (fun hh => x_X5_inside hsc K7003.1 hq_c0 hh) (fun y7004 => (?_ : G m7001 _ (81, [(0, .inl (.ref c0)), (1, .inl (.int c1)), (2, .inl (.int c2)), (3, .inl (.int v7001_3)), (4, .inl (.int d7001_4))], [.inl (.int y7004), .inl (.ref c0)], h7003, nc7001, ns7001)))
        refine k_putI HG rfl K7003 hq_c0 rfl rfl rfl (fun h7005 K7005 => (?_ : G m7001 _ (84, [(0, .inl (.ref c0)), (1, .inl (.int c1)), (2, .inl (.int c2)), (3, .inl (.int v7001_3)), (4, .inl (.int d7001_4))], [], h7005, nc7001, ns7001)))
        refine k_steps HG 2 (zB_iff.mpr (?_ : G m7001 _ (86, [(0, .inl (.ref c0)), (1, .inl (.int c1)), (2, .inl (.int c2)), (3, .inl (.int v7001_3)), (4, .inl (.int d7001_4))], [.inl (.int c2), .inl (.ref c0)], h7005, nc7001, ns7001)))
        refine k_putI HG rfl K7005 hq_c0 rfl rfl rfl (fun h7006 K7006 => (?_ : G m7001 _ (89, [(0, .inl (.ref c0)), (1, .inl (.int c1)), (2, .inl (.int c2)), (3, .inl (.int v7001_3)), (4, .inl (.int d7001_4))], [], h7006, nc7001, ns7001)))
        exact k_retv HG rfl rfl (fun e1 e2 => hR _ e1 e2 (kOK_trans A rfl K7006) (kN_of V_35 K7006 hq_c0 rfl))
      · show G m7001 _ (28, [(0, .inl (.ref c0)), (1, .inl (.int c1)), (2, .inl (.int c2)), (3, .inl (.int v7001_3)), (4, .inl (.int d7001_4))], [], h7001, nc7001, ns7001)
        refine k_steps HG 2 (zB_iff.mpr (?_ : G m7001 _ (31, [(4, .inl (.int (0 : Int32))), (0, .inl (.ref c0)), (1, .inl (.int c1)), (2, .inl (.int c2)), (3, .inl (.int v7001_3))], [], h7001, nc7001, ns7001)))
        have lp7007 : ∀ m7007, m7007 ≤ m7001 → ∀ (nc7007 : Nat) (ns7007 : Nat) (v7007_4 : Int32) (h7007 : zH), kOK W_X5_beginValuesA T T h h7007 → G m7007 ((fxP Pf (B_X5_beginValuesA_22 c0 c1 c2) []) (fx (B_X5_beginValuesA_31 c0 c1 c2 v7001_3) (Sum.inr []) (v7007_4, h7007))) (31, [(0, .inl (.ref c0)), (1, .inl (.int c1)), (2, .inl (.int c2)), (3, .inl (.int v7001_3)), (4, .inl (.int v7007_4))], [], h7007, nc7007, ns7007) := by
          intro m7007
          induction m7007 with
          | zero =>
            intros
            exact k_zero HG
          | succ m7007 ih7007 =>
            intro le7007 nc7007 ns7007 v7007_4 h7007 K7007
            have le7007 := Nat.le_of_succ_le le7007
            have ih7007 := ih7007 le7007
            refine k_fx ?_
            rw [B_X5_beginValuesA_31]
            refine k_first HG 2 (kb_ge (x := v7007_4) (y := (256 : Int32)) ?_ ?_)
            · show G m7007 _ (57, [(0, .inl (.ref c0)), (1, .inl (.int c1)), (2, .inl (.int c2)), (3, .inl (.int v7001_3)), (4, .inl (.int v7007_4))], [], h7007, nc7007, ns7007)
              refine k_steps HG 2 (zB_iff.mpr (?_ : G m7007 _ (22, [(3, .inl (.int (v7001_3 + (1 : Int32)))), (0, .inl (.ref c0)), (1, .inl (.int c1)), (2, .inl (.int c2)), (4, .inl (.int v7007_4))], [], h7007, nc7007, ns7007)))
              refine k_ext HG (L' := [(0, .inl (.ref c0)), (1, .inl (.int c1)), (2, .inl (.int c2)), (3, .inl (.int (v7001_3 + (1 : Int32)))), (4, .inl (.int v7007_4))]) rfl rfl ⟨rfl, rfl, rfl, rfl, rfl, trivial⟩ ?_
              exact k_mono HG le7007 (ih7001 _ _ _ _ _ K7007)
            · show G m7007 _ (39, [(0, .inl (.ref c0)), (1, .inl (.int c1)), (2, .inl (.int c2)), (3, .inl (.int v7001_3)), (4, .inl (.int v7007_4))], [], h7007, nc7007, ns7007)
              refine k_steps HG 1 (zB_iff.mpr (?_ : G m7007 _ (40, [(0, .inl (.ref c0)), (1, .inl (.int c1)), (2, .inl (.int c2)), (3, .inl (.int v7001_3)), (4, .inl (.int v7007_4))], [.inl (.ref c0)], h7007, nc7007, ns7007)))
              refine k_getN HG rfl K7007 hq_c0 rfl (kN_of V_35 K7007 hq_c0 rfl) (fun t7008 => (?_ : G m7007 _ (43, [(0, .inl (.ref c0)), (1, .inl (.int c1)), (2, .inl (.int c2)), (3, .inl (.int v7001_3)), (4, .inl (.int v7007_4))], [.inl (.ref (hr h7007 c0 35))], h7007, nc7007, ns7007)))
              refine k_steps HG 1 (zB_iff.mpr (?_ : G m7007 _ (44, [(0, .inl (.ref c0)), (1, .inl (.int c1)), (2, .inl (.int c2)), (3, .inl (.int v7001_3)), (4, .inl (.int v7007_4))], [.inl (.int v7001_3), .inl (.ref (hr h7007 c0 35))], h7007, nc7007, ns7007)))
              refine k_aald HG rfl K7007 t7008 (fun _ => ⟨rfl, rfl⟩) (fun t7009 => (?_ : G m7007 _ (45, [(0, .inl (.ref c0)), (1, .inl (.int c1)), (2, .inl (.int c2)), (3, .inl (.int v7001_3)), (4, .inl (.int v7007_4))], [.inl (.ref (hr h7007 (hr h7007 c0 35) v7001_3.toNatClampNeg))], h7007, nc7007, ns7007)))
              refine k_steps HG 2 (zB_iff.mpr (?_ : G m7007 _ (50, [(0, .inl (.ref c0)), (1, .inl (.int c1)), (2, .inl (.int c2)), (3, .inl (.int v7001_3)), (4, .inl (.int v7007_4))], [.inl (.long (-1 : Int64)), .inl (.int v7007_4), .inl (.ref (hr h7007 (hr h7007 c0 35) v7001_3.toNatClampNeg))], h7007, nc7007, ns7007)))
              refine k_last HG rfl K7007 t7009 rfl (fun _ => rfl) rfl (fun h7010 K7010 => (?_ : G m7007 _ (51, [(0, .inl (.ref c0)), (1, .inl (.int c1)), (2, .inl (.int c2)), (3, .inl (.int v7001_3)), (4, .inl (.int v7007_4))], [], h7010, nc7007, ns7007)))
              refine k_steps HG 2 (zB_iff.mpr (?_ : G m7007 _ (31, [(4, .inl (.int (v7007_4 + (1 : Int32)))), (0, .inl (.ref c0)), (1, .inl (.int c1)), (2, .inl (.int c2)), (3, .inl (.int v7001_3))], [], h7010, nc7007, ns7007)))
              refine k_ext HG (L' := [(0, .inl (.ref c0)), (1, .inl (.int c1)), (2, .inl (.int c2)), (3, .inl (.int v7001_3)), (4, .inl (.int (v7007_4 + (1 : Int32))))]) rfl rfl ⟨rfl, rfl, rfl, rfl, rfl, trivial⟩ ?_
              exact ih7007 _ _ _ _ K7010
        refine k_ext HG (L' := [(0, .inl (.ref c0)), (1, .inl (.int c1)), (2, .inl (.int c2)), (3, .inl (.int v7001_3)), (4, .inl (.int (0 : Int32)))]) rfl rfl ⟨rfl, rfl, rfl, rfl, rfl, trivial⟩ ?_
        exact lp7007 m7001 (Nat.le_refl _) _ _ _ _ K7001
  refine k_ext HG (L' := [(0, .inl (.ref c0)), (1, .inl (.int c1)), (2, .inl (.int c2)), (3, .inl (.int (0 : Int32))), (4, .inl (.int (0 : Int32)))]) rfl rfl ⟨rfl, rfl, rfl, rfl, trivial⟩ ?_
  exact lp7001 m (Nat.le_refl _) _ _ _ _ _ K
noncomputable def F_X5_beginValuesA (h : zH) (q0 : Nat) (a1 : Int32) (a2 : Int32) : zH := (J_X5_beginValuesA_j20 h q0 a1 a2)
theorem x_X5_beginValuesA {scr : List zV} {D : Nat} {T : List Nat} {h : zH} {q0 : Nat} {a1 : Int32} {a2 : Int32} (hsc : cT scr) (K : hOK kty T h) (hq_q0 : T[q0]? = some 5) (V_35 : kN T h q0 35 41) (hh : cH h) : xHd scr W_X5_beginValuesA T T (fun v => kN T v q0 35 41) D 158 [.inl (.ref q0), .inl (.int a1), .inl (.int a2)] h (F_X5_beginValuesA h q0 a1 a2) := by
  cases D with
  | zero => exact fun _ _ hx => absurd hx (fun q => xD_zero q)
  | succ D =>
    refine xHd_intro (E := ze_X5_beginValues) hsc rfl (cTb_ok rfl) hh (fun r h' G HG Pf hR m => ?_)
    have K := kOK_refl (W := W_X5_beginValuesA) K
    unfold F_X5_beginValuesA
    show G m _ (0, [(0, .inl (.ref q0)), (1, .inl (.int a1)), (2, .inl (.int a2))], [], h, 0, 0)
    refine k_steps HG 1 (zB_iff.mpr (?_ : G m _ (1, [(0, .inl (.ref q0)), (1, .inl (.int a1)), (2, .inl (.int a2))], [.inl (.ref q0)], h, 0, 0)))
    refine k_getN HG rfl K hq_q0 rfl (kN_of V_35 K hq_q0 rfl) (fun t1 => (?_ : G m _ (4, [(0, .inl (.ref q0)), (1, .inl (.int a1)), (2, .inl (.int a2))], [.inl (.ref (hr h q0 35))], h, 0, 0)))
    refine k_steps HG 1 (zB_iff.mpr (?_ : G m _ (20, [(0, .inl (.ref q0)), (1, .inl (.int a1)), (2, .inl (.int a2))], [], h, 0, 0)))
    exact w_X5_beginValuesA_j20 HG hsc hR K (kN_of V_35 K hq_q0 rfl) hq_q0
def W_X5_planOfA : List (Nat × Nat) := [(5, 36), (5, 37), (5, 38), (5, 39), (42, 1000)]
noncomputable def F_X5_planOfA (D : Nat) (h : zH) (q0 : Nat) (a1 : Int32) : Int32 × zH := (letf (F_X5_beginValuesA h q0 a1 (61 : Int32)) (fun h1 => (letf (F_X5_standing h1 q0) (fun y2 => (letf (F_X5_valueAt (D - 1) h1 q0 y2 (0 : Int32)) (fun y3 => ((Int64.toInt32 y3.1), y3.2)))))))
theorem x_X5_planOfA {scr : List zV} {D : Nat} {T : List Nat} {h : zH} {q0 : Nat} {a1 : Int32} (hsc : cT scr) (K : hOK kty T h) (hq_q0 : T[q0]? = some 5) (V_35 : kN T h q0 35 41) (hh : cH h) : xIHd scr W_X5_planOfA T T (fun v => kN T v.2 q0 35 41) D 209 [.inl (.ref q0), .inl (.int a1)] h (F_X5_planOfA D h q0 a1) := by
  cases D with
  | zero => exact fun _ _ hx => absurd hx (fun q => xD_zero q)
  | succ D =>
    refine xIHd_intro (E := ze_X5_planOf) hsc rfl (cTb_ok rfl) hh (fun r h' G HG Pf hR m => ?_)
    have K := kOK_refl (W := W_X5_planOfA) K
    unfold F_X5_planOfA
    show G m _ (0, [(0, .inl (.ref q0)), (1, .inl (.int a1))], [], h, 0, 0)
    refine k_steps HG 3 (zB_iff.mpr (?_ : G m _ (4, [(0, .inl (.ref q0)), (1, .inl (.int a1))], [.inl (.int (61 : Int32)), .inl (.int a1), .inl (.ref q0)], h, 0, 0)))
    refine k_cVHd HG (E' := ze_X5_beginValues) (Or.inl ⟨rfl, rfl⟩) hsc rfl rfl rfl K rfl (fun hh => x_X5_beginValuesA hsc K.1 hq_q0 (kN_of V_35 K hq_q0 rfl) hh) (fun h1 K1 Q1 => (?_ : G m _ (7, [(0, .inl (.ref q0)), (1, .inl (.int a1))], [], h1, (0 + zEc ze_X5_beginValues), (0 + zEs ze_X5_beginValues))))
    refine k_steps HG 2 (zB_iff.mpr (?_ : G m _ (9, [(0, .inl (.ref q0)), (1, .inl (.int a1))], [.inl (.ref q0), .inl (.ref q0)], h1, (0 + zEc ze_X5_beginValues), (0 + zEs ze_X5_beginValues))))
    refine k_cVI HG (E' := ze_X5_standing) (Or.inl ⟨rfl, rfl⟩) hsc rfl rfl rfl rfl rfl (fun hh => x_X5_standing hsc K1.1 hq_q0 hh) (fun y2 => (?_ : G m _ (12, [(0, .inl (.ref q0)), (1, .inl (.int a1))], [.inl (.int y2), .inl (.ref q0)], h1, (0 + zEc ze_X5_beginValues), (0 + zEs ze_X5_beginValues))))
    refine k_steps HG 1 (zB_iff.mpr (?_ : G m _ (13, [(0, .inl (.ref q0)), (1, .inl (.int a1))], [.inl (.int (0 : Int32)), .inl (.int y2), .inl (.ref q0)], h1, (0 + zEc ze_X5_beginValues), (0 + zEs ze_X5_beginValues))))
    refine k_cVJHd HG (E' := ze_X5_valueAt) (Or.inl ⟨rfl, rfl⟩) hsc rfl rfl rfl K1 rfl (fun hh => x_X5_valueAt hsc K1.1 hq_q0 (kN_of V_35 K1 hq_q0 rfl) hh) (fun y3 K3 Q3 => (?_ : G m _ (16, [(0, .inl (.ref q0)), (1, .inl (.int a1))], [.inl (.long y3.1)], y3.2, (0 + zEc ze_X5_beginValues), (0 + zEs ze_X5_beginValues))))
    refine k_steps HG 1 (zB_iff.mpr (?_ : G m _ (17, [(0, .inl (.ref q0)), (1, .inl (.int a1))], [.inl (.int (Int64.toInt32 y3.1))], y3.2, (0 + zEc ze_X5_beginValues), (0 + zEs ze_X5_beginValues))))
    exact k_reti HG rfl rfl (fun e1 e2 => hR _ _ e1 e2 K3 (kN_of V_35 K3 hq_q0 rfl))
def W_X5_beginValuesNA : List (Nat × Nat) := [(5, 36), (5, 37), (5, 38), (5, 39), (42, 1000)]
noncomputable def B_X5_beginValuesNA_31 (c0 : Nat) (c1 : Int32) (c2 : Int32) (c3 : Int32) (s : (Int32 × zH)) : (Int32 × zH) ⊕ ((Int32 × zH) ⊕ (zH)) := (if s.1 < (256 : Int32) then (letf (hput s.2 (hr s.2 (hr s.2 c0 35) c3.toNatClampNeg) s.1.toNatClampNeg (.inl (.long (-1 : Int64)))) (fun h2003 => (Sum.inl ((s.1 + (1 : Int32)), h2003)))) else (Sum.inr (Sum.inl ((c3 + (1 : Int32)), s.2))))
noncomputable def B_X5_beginValuesNA_22 (c0 : Nat) (c1 : Int32) (c2 : Int32) (s : (Int32 × zH)) : (Int32 × zH) ⊕ (zH) := (if (61 : Int32) < s.1 then (letf (hput s.2 c0 36 (.inl (.int c1))) (fun h1001 => (letf (hput h1001 c0 37 (.inl (.int (hv h1001 c0 13)))) (fun h1002 => (letf (F_X5_inside h1002 c0) (fun y1003 => (letf (hput h1002 c0 38 (.inl (.int y1003))) (fun h1004 => (letf (hput h1004 c0 39 (.inl (.int c2))) (fun h1005 => (Sum.inr h1005))))))))))) else (fx (B_X5_beginValuesNA_31 c0 c1 c2 s.1) (Sum.inr []) ((0 : Int32), s.2)))
noncomputable def J_X5_beginValuesNA_j20 (h : zH) (c0 : Nat) (c1 : Int32) (c2 : Int32) : zH := (fx (B_X5_beginValuesNA_22 c0 c1 c2) [] ((0 : Int32), h))
theorem w_X5_beginValuesNA_j20 {scr : List zV} {T0 T : List Nat} {d m nc ns : Nat} {r : Option zV} {h' h h0 : zH} {G : Nat → Prop → zS → Prop} {Pf : zH → Prop} {c0 : Nat} {c1 : Int32} {c2 : Int32} (HG : G = GL ze_X5_beginValuesN scr (zEc ze_X5_beginValuesN) (zEs ze_X5_beginValuesN) (zD zprog scr d) r h') (hsc : cT scr) (hR : ∀ hh, (none : Option zV) = r → hh = h' → kOK W_X5_beginValuesNA T0 T h0 hh → (fun v => kN T v c0 35 41) hh → Pf hh) (K : kOK W_X5_beginValuesNA T0 T h0 h) (V_35 : kN T h c0 35 41) (hq_c0 : T[c0]? = some 5) : G m (Pf (J_X5_beginValuesNA_j20 h c0 c1 c2)) (20, [(0, .inl (.ref c0)), (1, .inl (.int c1)), (2, .inl (.int c2))], [], h, nc, ns) := by
  have A := K
  have K := kOK_refl (W := W_X5_beginValuesNA) A.1
  unfold J_X5_beginValuesNA_j20
  refine k_steps HG 2 (zB_iff.mpr (?_ : G m _ (22, [(3, .inl (.int (0 : Int32))), (0, .inl (.ref c0)), (1, .inl (.int c1)), (2, .inl (.int c2))], [], h, nc, ns)))
  have lp7001 : ∀ m7001, m7001 ≤ m → ∀ (nc7001 : Nat) (ns7001 : Nat) (d7001_4 : Int32) (v7001_3 : Int32) (h7001 : zH), kOK W_X5_beginValuesNA T T h h7001 → G m7001 (Pf (fx (B_X5_beginValuesNA_22 c0 c1 c2) [] (v7001_3, h7001))) (22, [(0, .inl (.ref c0)), (1, .inl (.int c1)), (2, .inl (.int c2)), (3, .inl (.int v7001_3)), (4, .inl (.int d7001_4))], [], h7001, nc7001, ns7001) := by
    intro m7001
    induction m7001 with
    | zero =>
      intros
      exact k_zero HG
    | succ m7001 ih7001 =>
      intro le7001 nc7001 ns7001 d7001_4 v7001_3 h7001 K7001
      have le7001 := Nat.le_of_succ_le le7001
      have ih7001 := ih7001 le7001
      refine k_fx ?_
      rw [B_X5_beginValuesNA_22]
      refine k_first HG 2 (kb_gt (x := v7001_3) (y := (61 : Int32)) ?_ ?_)
      · show G m7001 _ (63, [(0, .inl (.ref c0)), (1, .inl (.int c1)), (2, .inl (.int c2)), (3, .inl (.int v7001_3)), (4, .inl (.int d7001_4))], [], h7001, nc7001, ns7001)
        refine k_steps HG 2 (zB_iff.mpr (?_ : G m7001 _ (65, [(0, .inl (.ref c0)), (1, .inl (.int c1)), (2, .inl (.int c2)), (3, .inl (.int v7001_3)), (4, .inl (.int d7001_4))], [.inl (.int c1), .inl (.ref c0)], h7001, nc7001, ns7001)))
        refine k_putI HG rfl K7001 hq_c0 rfl rfl rfl (fun h7002 K7002 => (?_ : G m7001 _ (68, [(0, .inl (.ref c0)), (1, .inl (.int c1)), (2, .inl (.int c2)), (3, .inl (.int v7001_3)), (4, .inl (.int d7001_4))], [], h7002, nc7001, ns7001)))
        refine k_steps HG 2 (zB_iff.mpr (?_ : G m7001 _ (70, [(0, .inl (.ref c0)), (1, .inl (.int c1)), (2, .inl (.int c2)), (3, .inl (.int v7001_3)), (4, .inl (.int d7001_4))], [.inl (.ref c0), .inl (.ref c0)], h7002, nc7001, ns7001)))
        refine k_getI HG rfl K7002 hq_c0 rfl (Nat.le_of_ble_eq_true rfl) rfl (?_ : G m7001 _ (73, [(0, .inl (.ref c0)), (1, .inl (.int c1)), (2, .inl (.int c2)), (3, .inl (.int v7001_3)), (4, .inl (.int d7001_4))], [.inl (.int (hv h7002 c0 13)), .inl (.ref c0)], h7002, nc7001, ns7001))
        refine k_putI HG rfl K7002 hq_c0 rfl rfl rfl (fun h7003 K7003 => (?_ : G m7001 _ (76, [(0, .inl (.ref c0)), (1, .inl (.int c1)), (2, .inl (.int c2)), (3, .inl (.int v7001_3)), (4, .inl (.int d7001_4))], [], h7003, nc7001, ns7001)))
        refine k_steps HG 2 (zB_iff.mpr (?_ : G m7001 _ (78, [(0, .inl (.ref c0)), (1, .inl (.int c1)), (2, .inl (.int c2)), (3, .inl (.int v7001_3)), (4, .inl (.int d7001_4))], [.inl (.ref c0), .inl (.ref c0)], h7003, nc7001, ns7001)))
        refine k_cVI HG (E' := ze_X5_inside) (Or.inl ⟨rfl, rfl⟩) hsc rfl rfl rfl rfl rfl (fun hh => x_X5_inside hsc K7003.1 hq_c0 hh) (fun y7004 => (?_ : G m7001 _ (81, [(0, .inl (.ref c0)), (1, .inl (.int c1)), (2, .inl (.int c2)), (3, .inl (.int v7001_3)), (4, .inl (.int d7001_4))], [.inl (.int y7004), .inl (.ref c0)], h7003, nc7001, ns7001)))
        refine k_putI HG rfl K7003 hq_c0 rfl rfl rfl (fun h7005 K7005 => (?_ : G m7001 _ (84, [(0, .inl (.ref c0)), (1, .inl (.int c1)), (2, .inl (.int c2)), (3, .inl (.int v7001_3)), (4, .inl (.int d7001_4))], [], h7005, nc7001, ns7001)))
        refine k_steps HG 2 (zB_iff.mpr (?_ : G m7001 _ (86, [(0, .inl (.ref c0)), (1, .inl (.int c1)), (2, .inl (.int c2)), (3, .inl (.int v7001_3)), (4, .inl (.int d7001_4))], [.inl (.int c2), .inl (.ref c0)], h7005, nc7001, ns7001)))
        refine k_putI HG rfl K7005 hq_c0 rfl rfl rfl (fun h7006 K7006 => (?_ : G m7001 _ (89, [(0, .inl (.ref c0)), (1, .inl (.int c1)), (2, .inl (.int c2)), (3, .inl (.int v7001_3)), (4, .inl (.int d7001_4))], [], h7006, nc7001, ns7001)))
        exact k_retv HG rfl rfl (fun e1 e2 => hR _ e1 e2 (kOK_trans A rfl K7006) (kN_of V_35 K7006 hq_c0 rfl))
      · show G m7001 _ (28, [(0, .inl (.ref c0)), (1, .inl (.int c1)), (2, .inl (.int c2)), (3, .inl (.int v7001_3)), (4, .inl (.int d7001_4))], [], h7001, nc7001, ns7001)
        refine k_steps HG 2 (zB_iff.mpr (?_ : G m7001 _ (31, [(4, .inl (.int (0 : Int32))), (0, .inl (.ref c0)), (1, .inl (.int c1)), (2, .inl (.int c2)), (3, .inl (.int v7001_3))], [], h7001, nc7001, ns7001)))
        have lp7007 : ∀ m7007, m7007 ≤ m7001 → ∀ (nc7007 : Nat) (ns7007 : Nat) (v7007_4 : Int32) (h7007 : zH), kOK W_X5_beginValuesNA T T h h7007 → G m7007 ((fxP Pf (B_X5_beginValuesNA_22 c0 c1 c2) []) (fx (B_X5_beginValuesNA_31 c0 c1 c2 v7001_3) (Sum.inr []) (v7007_4, h7007))) (31, [(0, .inl (.ref c0)), (1, .inl (.int c1)), (2, .inl (.int c2)), (3, .inl (.int v7001_3)), (4, .inl (.int v7007_4))], [], h7007, nc7007, ns7007) := by
          intro m7007
          induction m7007 with
          | zero =>
            intros
            exact k_zero HG
          | succ m7007 ih7007 =>
            intro le7007 nc7007 ns7007 v7007_4 h7007 K7007
            have le7007 := Nat.le_of_succ_le le7007
            have ih7007 := ih7007 le7007
            refine k_fx ?_
            rw [B_X5_beginValuesNA_31]
            refine k_first HG 2 (kb_ge (x := v7007_4) (y := (256 : Int32)) ?_ ?_)
            · show G m7007 _ (57, [(0, .inl (.ref c0)), (1, .inl (.int c1)), (2, .inl (.int c2)), (3, .inl (.int v7001_3)), (4, .inl (.int v7007_4))], [], h7007, nc7007, ns7007)
              refine k_steps HG 2 (zB_iff.mpr (?_ : G m7007 _ (22, [(3, .inl (.int (v7001_3 + (1 : Int32)))), (0, .inl (.ref c0)), (1, .inl (.int c1)), (2, .inl (.int c2)), (4, .inl (.int v7007_4))], [], h7007, nc7007, ns7007)))
              refine k_ext HG (L' := [(0, .inl (.ref c0)), (1, .inl (.int c1)), (2, .inl (.int c2)), (3, .inl (.int (v7001_3 + (1 : Int32)))), (4, .inl (.int v7007_4))]) rfl rfl ⟨rfl, rfl, rfl, rfl, rfl, trivial⟩ ?_
              exact k_mono HG le7007 (ih7001 _ _ _ _ _ K7007)
            · show G m7007 _ (39, [(0, .inl (.ref c0)), (1, .inl (.int c1)), (2, .inl (.int c2)), (3, .inl (.int v7001_3)), (4, .inl (.int v7007_4))], [], h7007, nc7007, ns7007)
              refine k_steps HG 1 (zB_iff.mpr (?_ : G m7007 _ (40, [(0, .inl (.ref c0)), (1, .inl (.int c1)), (2, .inl (.int c2)), (3, .inl (.int v7001_3)), (4, .inl (.int v7007_4))], [.inl (.ref c0)], h7007, nc7007, ns7007)))
              refine k_getN HG rfl K7007 hq_c0 rfl (kN_of V_35 K7007 hq_c0 rfl) (fun t7008 => (?_ : G m7007 _ (43, [(0, .inl (.ref c0)), (1, .inl (.int c1)), (2, .inl (.int c2)), (3, .inl (.int v7001_3)), (4, .inl (.int v7007_4))], [.inl (.ref (hr h7007 c0 35))], h7007, nc7007, ns7007)))
              refine k_steps HG 1 (zB_iff.mpr (?_ : G m7007 _ (44, [(0, .inl (.ref c0)), (1, .inl (.int c1)), (2, .inl (.int c2)), (3, .inl (.int v7001_3)), (4, .inl (.int v7007_4))], [.inl (.int v7001_3), .inl (.ref (hr h7007 c0 35))], h7007, nc7007, ns7007)))
              refine k_aald HG rfl K7007 t7008 (fun _ => ⟨rfl, rfl⟩) (fun t7009 => (?_ : G m7007 _ (45, [(0, .inl (.ref c0)), (1, .inl (.int c1)), (2, .inl (.int c2)), (3, .inl (.int v7001_3)), (4, .inl (.int v7007_4))], [.inl (.ref (hr h7007 (hr h7007 c0 35) v7001_3.toNatClampNeg))], h7007, nc7007, ns7007)))
              refine k_steps HG 2 (zB_iff.mpr (?_ : G m7007 _ (50, [(0, .inl (.ref c0)), (1, .inl (.int c1)), (2, .inl (.int c2)), (3, .inl (.int v7001_3)), (4, .inl (.int v7007_4))], [.inl (.long (-1 : Int64)), .inl (.int v7007_4), .inl (.ref (hr h7007 (hr h7007 c0 35) v7001_3.toNatClampNeg))], h7007, nc7007, ns7007)))
              refine k_last HG rfl K7007 t7009 rfl (fun _ => rfl) rfl (fun h7010 K7010 => (?_ : G m7007 _ (51, [(0, .inl (.ref c0)), (1, .inl (.int c1)), (2, .inl (.int c2)), (3, .inl (.int v7001_3)), (4, .inl (.int v7007_4))], [], h7010, nc7007, ns7007)))
              refine k_steps HG 2 (zB_iff.mpr (?_ : G m7007 _ (31, [(4, .inl (.int (v7007_4 + (1 : Int32)))), (0, .inl (.ref c0)), (1, .inl (.int c1)), (2, .inl (.int c2)), (3, .inl (.int v7001_3))], [], h7010, nc7007, ns7007)))
              refine k_ext HG (L' := [(0, .inl (.ref c0)), (1, .inl (.int c1)), (2, .inl (.int c2)), (3, .inl (.int v7001_3)), (4, .inl (.int (v7007_4 + (1 : Int32))))]) rfl rfl ⟨rfl, rfl, rfl, rfl, rfl, trivial⟩ ?_
              exact ih7007 _ _ _ _ K7010
        refine k_ext HG (L' := [(0, .inl (.ref c0)), (1, .inl (.int c1)), (2, .inl (.int c2)), (3, .inl (.int v7001_3)), (4, .inl (.int (0 : Int32)))]) rfl rfl ⟨rfl, rfl, rfl, rfl, rfl, trivial⟩ ?_
        exact lp7007 m7001 (Nat.le_refl _) _ _ _ _ K7001
  refine k_ext HG (L' := [(0, .inl (.ref c0)), (1, .inl (.int c1)), (2, .inl (.int c2)), (3, .inl (.int (0 : Int32))), (4, .inl (.int (0 : Int32)))]) rfl rfl ⟨rfl, rfl, rfl, rfl, trivial⟩ ?_
  exact lp7001 m (Nat.le_refl _) _ _ _ _ _ K
noncomputable def F_X5_beginValuesNA (h : zH) (q0 : Nat) (a1 : Int32) (a2 : Int32) : zH := (J_X5_beginValuesNA_j20 h q0 a1 a2)
theorem x_X5_beginValuesNA {scr : List zV} {D : Nat} {T : List Nat} {h : zH} {q0 : Nat} {a1 : Int32} {a2 : Int32} (hsc : cT scr) (K : hOK kty T h) (hq_q0 : T[q0]? = some 5) (V_35 : kN T h q0 35 41) (hh : cH h) : xHd scr W_X5_beginValuesNA T T (fun v => kN T v q0 35 41) D 251 [.inl (.ref q0), .inl (.int a1), .inl (.int a2)] h (F_X5_beginValuesNA h q0 a1 a2) := by
  cases D with
  | zero => exact fun _ _ hx => absurd hx (fun q => xD_zero q)
  | succ D =>
    refine xHd_intro (E := ze_X5_beginValuesN) hsc rfl (cTb_ok rfl) hh (fun r h' G HG Pf hR m => ?_)
    have K := kOK_refl (W := W_X5_beginValuesNA) K
    unfold F_X5_beginValuesNA
    show G m _ (0, [(0, .inl (.ref q0)), (1, .inl (.int a1)), (2, .inl (.int a2))], [], h, 0, 0)
    refine k_steps HG 1 (zB_iff.mpr (?_ : G m _ (1, [(0, .inl (.ref q0)), (1, .inl (.int a1)), (2, .inl (.int a2))], [.inl (.ref q0)], h, 0, 0)))
    refine k_getN HG rfl K hq_q0 rfl (kN_of V_35 K hq_q0 rfl) (fun t1 => (?_ : G m _ (4, [(0, .inl (.ref q0)), (1, .inl (.int a1)), (2, .inl (.int a2))], [.inl (.ref (hr h q0 35))], h, 0, 0)))
    refine k_steps HG 1 (zB_iff.mpr (?_ : G m _ (20, [(0, .inl (.ref q0)), (1, .inl (.int a1)), (2, .inl (.int a2))], [], h, 0, 0)))
    exact w_X5_beginValuesNA_j20 HG hsc hR K (kN_of V_35 K hq_q0 rfl) hq_q0
def W_X5_planOfNA : List (Nat × Nat) := [(5, 36), (5, 37), (5, 38), (5, 39), (42, 1000)]
noncomputable def F_X5_planOfNA (D : Nat) (h : zH) (q0 : Nat) (a1 : Int32) : Int32 × zH := (letf (F_X5_beginValuesNA h q0 a1 (61 : Int32)) (fun h1 => (letf (F_X5_standing h1 q0) (fun y2 => (letf (F_X5_valueAt (D - 1) h1 q0 y2 (0 : Int32)) (fun y3 => ((Int64.toInt32 y3.1), y3.2)))))))
theorem x_X5_planOfNA {scr : List zV} {D : Nat} {T : List Nat} {h : zH} {q0 : Nat} {a1 : Int32} (hsc : cT scr) (K : hOK kty T h) (hq_q0 : T[q0]? = some 5) (V_35 : kN T h q0 35 41) (hh : cH h) : xIHd scr W_X5_planOfNA T T (fun v => kN T v.2 q0 35 41) D 252 [.inl (.ref q0), .inl (.int a1)] h (F_X5_planOfNA D h q0 a1) := by
  cases D with
  | zero => exact fun _ _ hx => absurd hx (fun q => xD_zero q)
  | succ D =>
    refine xIHd_intro (E := ze_X5_planOfN) hsc rfl (cTb_ok rfl) hh (fun r h' G HG Pf hR m => ?_)
    have K := kOK_refl (W := W_X5_planOfNA) K
    unfold F_X5_planOfNA
    show G m _ (0, [(0, .inl (.ref q0)), (1, .inl (.int a1))], [], h, 0, 0)
    refine k_steps HG 3 (zB_iff.mpr (?_ : G m _ (4, [(0, .inl (.ref q0)), (1, .inl (.int a1))], [.inl (.int (61 : Int32)), .inl (.int a1), .inl (.ref q0)], h, 0, 0)))
    refine k_cVHd HG (E' := ze_X5_beginValuesN) (Or.inl ⟨rfl, rfl⟩) hsc rfl rfl rfl K rfl (fun hh => x_X5_beginValuesNA hsc K.1 hq_q0 (kN_of V_35 K hq_q0 rfl) hh) (fun h1 K1 Q1 => (?_ : G m _ (7, [(0, .inl (.ref q0)), (1, .inl (.int a1))], [], h1, 0, 0)))
    refine k_steps HG 2 (zB_iff.mpr (?_ : G m _ (9, [(0, .inl (.ref q0)), (1, .inl (.int a1))], [.inl (.ref q0), .inl (.ref q0)], h1, 0, 0)))
    refine k_cVI HG (E' := ze_X5_standing) (Or.inl ⟨rfl, rfl⟩) hsc rfl rfl rfl rfl rfl (fun hh => x_X5_standing hsc K1.1 hq_q0 hh) (fun y2 => (?_ : G m _ (12, [(0, .inl (.ref q0)), (1, .inl (.int a1))], [.inl (.int y2), .inl (.ref q0)], h1, 0, 0)))
    refine k_steps HG 1 (zB_iff.mpr (?_ : G m _ (13, [(0, .inl (.ref q0)), (1, .inl (.int a1))], [.inl (.int (0 : Int32)), .inl (.int y2), .inl (.ref q0)], h1, 0, 0)))
    refine k_cVJHd HG (E' := ze_X5_valueAt) (Or.inl ⟨rfl, rfl⟩) hsc rfl rfl rfl K1 rfl (fun hh => x_X5_valueAt hsc K1.1 hq_q0 (kN_of V_35 K1 hq_q0 rfl) hh) (fun y3 K3 Q3 => (?_ : G m _ (16, [(0, .inl (.ref q0)), (1, .inl (.int a1))], [.inl (.long y3.1)], y3.2, 0, 0)))
    refine k_steps HG 1 (zB_iff.mpr (?_ : G m _ (17, [(0, .inl (.ref q0)), (1, .inl (.int a1))], [.inl (.int (Int64.toInt32 y3.1))], y3.2, 0, 0)))
    exact k_reti HG rfl rfl (fun e1 e2 => hR _ _ e1 e2 K3 (kN_of V_35 K3 hq_q0 rfl))
def W_X5_meanOfNA : List (Nat × Nat) := [(5, 36), (5, 37), (5, 38), (5, 39), (42, 1000)]
noncomputable def F_X5_meanOfNA (D : Nat) (h : zH) (q0 : Nat) (a1 : Int32) (a2 : Int32) : Int64 × zH := (letf (F_X5_beginValuesNA h q0 a1 a2) (fun h1 => (letf (F_X5_standing h1 q0) (fun y2 => (letf (F_X5_valueAt (D - 1) h1 q0 y2 (0 : Int32)) (fun y3 => (y3.1, y3.2)))))))
theorem x_X5_meanOfNA {scr : List zV} {D : Nat} {T : List Nat} {h : zH} {q0 : Nat} {a1 : Int32} {a2 : Int32} (hsc : cT scr) (K : hOK kty T h) (hq_q0 : T[q0]? = some 5) (V_35 : kN T h q0 35 41) (hh : cH h) : xJHd scr W_X5_meanOfNA T T (fun _ => True) D 253 [.inl (.ref q0), .inl (.int a1), .inl (.int a2)] h (F_X5_meanOfNA D h q0 a1 a2) := by
  cases D with
  | zero => exact fun _ _ hx => absurd hx (fun q => xD_zero q)
  | succ D =>
    refine xJHd_intro (E := ze_X5_meanOfN) hsc rfl (cTb_ok rfl) hh (fun r h' G HG Pf hR m => ?_)
    have K := kOK_refl (W := W_X5_meanOfNA) K
    unfold F_X5_meanOfNA
    show G m _ (0, [(0, .inl (.ref q0)), (1, .inl (.int a1)), (2, .inl (.int a2))], [], h, 0, 0)
    refine k_steps HG 3 (zB_iff.mpr (?_ : G m _ (3, [(0, .inl (.ref q0)), (1, .inl (.int a1)), (2, .inl (.int a2))], [.inl (.int a2), .inl (.int a1), .inl (.ref q0)], h, 0, 0)))
    refine k_cVHd HG (E' := ze_X5_beginValuesN) (Or.inl ⟨rfl, rfl⟩) hsc rfl rfl rfl K rfl (fun hh => x_X5_beginValuesNA hsc K.1 hq_q0 (kN_of V_35 K hq_q0 rfl) hh) (fun h1 K1 Q1 => (?_ : G m _ (6, [(0, .inl (.ref q0)), (1, .inl (.int a1)), (2, .inl (.int a2))], [], h1, 0, 0)))
    refine k_steps HG 2 (zB_iff.mpr (?_ : G m _ (8, [(0, .inl (.ref q0)), (1, .inl (.int a1)), (2, .inl (.int a2))], [.inl (.ref q0), .inl (.ref q0)], h1, 0, 0)))
    refine k_cVI HG (E' := ze_X5_standing) (Or.inl ⟨rfl, rfl⟩) hsc rfl rfl rfl rfl rfl (fun hh => x_X5_standing hsc K1.1 hq_q0 hh) (fun y2 => (?_ : G m _ (11, [(0, .inl (.ref q0)), (1, .inl (.int a1)), (2, .inl (.int a2))], [.inl (.int y2), .inl (.ref q0)], h1, 0, 0)))
    refine k_steps HG 1 (zB_iff.mpr (?_ : G m _ (12, [(0, .inl (.ref q0)), (1, .inl (.int a1)), (2, .inl (.int a2))], [.inl (.int (0 : Int32)), .inl (.int y2), .inl (.ref q0)], h1, 0, 0)))
    refine k_cVJHd HG (E' := ze_X5_valueAt) (Or.inl ⟨rfl, rfl⟩) hsc rfl rfl rfl K1 rfl (fun hh => x_X5_valueAt hsc K1.1 hq_q0 (kN_of V_35 K1 hq_q0 rfl) hh) (fun y3 K3 Q3 => (?_ : G m _ (15, [(0, .inl (.ref q0)), (1, .inl (.int a1)), (2, .inl (.int a2))], [.inl (.long y3.1)], y3.2, 0, 0)))
    exact k_retl HG rfl rfl (fun e1 e2 => hR _ _ e1 e2 K3 trivial)
def W_X5_planNA : List (Nat × Nat) := [(5, 36), (5, 37), (5, 38), (5, 39), (30, 1000), (42, 1000)]
noncomputable def F_X5_planNA (D : Nat) (h : zH) (q0 : Nat) (a1 : Int32) : Int32 × zH := (letf (F_X5_isBuyer h q0 a1) (fun y1 => (if y1 = (0 : Int32) then (letf (F_X5_refuse h q0 (-2 : Int32)) (fun y2 => (y2.1, y2.2))) else (letf (F_X5_planOfNA (D - 1) h q0 a1) (fun y3 => (y3.1, y3.2))))))
theorem x_X5_planNA {scr : List zV} {D : Nat} {T : List Nat} {h : zH} {q0 : Nat} {a1 : Int32} (hsc : cT scr) (K : hOK kty T h) (hq_q0 : T[q0]? = some 5) (V_35 : kN T h q0 35 41) (hh : cH h) : xIHd scr W_X5_planNA T T (fun _ => True) D 254 [.inl (.ref q0), .inl (.int a1)] h (F_X5_planNA D h q0 a1) := by
  cases D with
  | zero => exact fun _ _ hx => absurd hx (fun q => xD_zero q)
  | succ D =>
    refine xIHd_intro (E := ze_X5_planN) hsc rfl (cTb_ok rfl) hh (fun r h' G HG Pf hR m => ?_)
    have K := kOK_refl (W := W_X5_planNA) K
    unfold F_X5_planNA
    show G m _ (0, [(0, .inl (.ref q0)), (1, .inl (.int a1))], [], h, 0, 0)
    refine k_steps HG 2 (zB_iff.mpr (?_ : G m _ (2, [(0, .inl (.ref q0)), (1, .inl (.int a1))], [.inl (.int a1), .inl (.ref q0)], h, 0, 0)))
    refine k_cVI HG (E' := ze_X5_isBuyer) (Or.inl ⟨rfl, rfl⟩) hsc rfl rfl rfl rfl rfl (fun hh => x_X5_isBuyer hsc K.1 hq_q0 hh) (fun y1 => (?_ : G m _ (5, [(0, .inl (.ref q0)), (1, .inl (.int a1))], [.inl (.int y1)], h, 0, 0)))
    refine k_steps HG 1 (kb_eq (x := y1) (y := (0 : Int32)) ?_ ?_)
    · show G m _ (16, [(0, .inl (.ref q0)), (1, .inl (.int a1))], [], h, 0, 0)
      refine k_steps HG 2 (zB_iff.mpr (?_ : G m _ (19, [(0, .inl (.ref q0)), (1, .inl (.int a1))], [.inl (.int (-2 : Int32)), .inl (.ref q0)], h, 0, 0)))
      refine k_cVIH HG (E' := ze_X5_refuse) (Or.inl ⟨rfl, rfl⟩) hsc rfl rfl rfl rfl rfl K rfl (fun hh => x_X5_refuse hsc K.1 hq_q0 hh) (fun y2 K2 => (?_ : G m _ (22, [(0, .inl (.ref q0)), (1, .inl (.int a1))], [.inl (.int y2.1)], y2.2, 0, 0)))
      exact k_reti HG rfl rfl (fun e1 e2 => hR _ _ e1 e2 K2 trivial)
    · show G m _ (8, [(0, .inl (.ref q0)), (1, .inl (.int a1))], [], h, 0, 0)
      refine k_steps HG 2 (zB_iff.mpr (?_ : G m _ (10, [(0, .inl (.ref q0)), (1, .inl (.int a1))], [.inl (.int a1), .inl (.ref q0)], h, 0, 0)))
      refine k_cVIHd HG (E' := ze_X5_planOfN) (Or.inl ⟨rfl, rfl⟩) hsc rfl rfl rfl K rfl (fun hh => x_X5_planOfNA hsc K.1 hq_q0 (kN_of V_35 K hq_q0 rfl) hh) (fun y3 K3 Q3 => (?_ : G m _ (13, [(0, .inl (.ref q0)), (1, .inl (.int a1))], [.inl (.int y3.1)], y3.2, 0, 0)))
      refine k_steps HG 1 (zB_iff.mpr (?_ : G m _ (22, [(0, .inl (.ref q0)), (1, .inl (.int a1))], [.inl (.int y3.1)], y3.2, 0, 0)))
      exact k_reti HG rfl rfl (fun e1 e2 => hR _ _ e1 e2 K3 trivial)
def W_X5_tillNA : List (Nat × Nat) := [(5, 36), (5, 37), (5, 38), (5, 39), (30, 1000), (42, 1000)]
noncomputable def B_X5_tillNA_29 (D : Nat) (c0 : Nat) (c1 : Int32) (c2 : Int32) (s : (Int32 × zH)) : (Int32 × zH) ⊕ (Int32 × zH) := (letf (F_X5_bits c2) (fun y1001 => (if ((hv s.2 c0 38) - y1001) < s.1 then (Sum.inr ((60 : Int32), s.2)) else (letf (F_X5_valueAt (D - 1) s.2 c0 c2 s.1) (fun y1002 => (if y1002.1 = (0 : Int64) then (Sum.inr (s.1, y1002.2)) else (Sum.inl ((s.1 + (1 : Int32)), y1002.2))))))))
noncomputable def F_X5_tillNA (D : Nat) (h : zH) (q0 : Nat) (a1 : Int32) : Int32 × zH := (letf (F_X5_isBuyer h q0 a1) (fun y1 => (if y1 = (0 : Int32) then (letf (F_X5_refuse h q0 (-2 : Int32)) (fun y7 => (y7.1, y7.2))) else (letf (F_X5_beginValuesNA h q0 a1 (61 : Int32)) (fun h2 => (letf (F_X5_standing h2 q0) (fun y3 => (fx (B_X5_tillNA_29 D q0 a1 y3) (0, []) ((0 : Int32), h2)))))))))
theorem x_X5_tillNA {scr : List zV} {D : Nat} {T : List Nat} {h : zH} {q0 : Nat} {a1 : Int32} (hsc : cT scr) (K : hOK kty T h) (hq_q0 : T[q0]? = some 5) (V_35 : kN T h q0 35 41) (hh : cH h) : xIHd scr W_X5_tillNA T T (fun _ => True) D 255 [.inl (.ref q0), .inl (.int a1)] h (F_X5_tillNA D h q0 a1) := by
  cases D with
  | zero => exact fun _ _ hx => absurd hx (fun q => xD_zero q)
  | succ D =>
    refine xIHd_intro (E := ze_X5_tillN) hsc rfl (cTb_ok rfl) hh (fun r h' G HG Pf hR m => ?_)
    have K := kOK_refl (W := W_X5_tillNA) K
    unfold F_X5_tillNA
    show G m _ (0, [(0, .inl (.ref q0)), (1, .inl (.int a1))], [], h, 0, 0)
    refine k_steps HG 2 (zB_iff.mpr (?_ : G m _ (2, [(0, .inl (.ref q0)), (1, .inl (.int a1))], [.inl (.int a1), .inl (.ref q0)], h, 0, 0)))
    refine k_cVI HG (E' := ze_X5_isBuyer) (Or.inl ⟨rfl, rfl⟩) hsc rfl rfl rfl rfl rfl (fun hh => x_X5_isBuyer hsc K.1 hq_q0 hh) (fun y1 => (?_ : G m _ (5, [(0, .inl (.ref q0)), (1, .inl (.int a1))], [.inl (.int y1)], h, 0, 0)))
    refine k_steps HG 1 (kb_ne (x := y1) (y := (0 : Int32)) ?_ ?_)
    · show G m _ (15, [(0, .inl (.ref q0)), (1, .inl (.int a1))], [], h, 0, 0)
      refine k_steps HG 3 (zB_iff.mpr (?_ : G m _ (19, [(0, .inl (.ref q0)), (1, .inl (.int a1))], [.inl (.int (61 : Int32)), .inl (.int a1), .inl (.ref q0)], h, 0, 0)))
      refine k_cVHd HG (E' := ze_X5_beginValuesN) (Or.inl ⟨rfl, rfl⟩) hsc rfl rfl rfl K rfl (fun hh => x_X5_beginValuesNA hsc K.1 hq_q0 (kN_of V_35 K hq_q0 rfl) hh) (fun h2 K2 Q2 => (?_ : G m _ (22, [(0, .inl (.ref q0)), (1, .inl (.int a1))], [], h2, 0, 0)))
      refine k_steps HG 1 (zB_iff.mpr (?_ : G m _ (23, [(0, .inl (.ref q0)), (1, .inl (.int a1))], [.inl (.ref q0)], h2, 0, 0)))
      refine k_cVI HG (E' := ze_X5_standing) (Or.inl ⟨rfl, rfl⟩) hsc rfl rfl rfl rfl rfl (fun hh => x_X5_standing hsc K2.1 hq_q0 hh) (fun y3 => (?_ : G m _ (26, [(0, .inl (.ref q0)), (1, .inl (.int a1))], [.inl (.int y3)], h2, 0, 0)))
      refine k_steps HG 3 (zB_iff.mpr (?_ : G m _ (29, [(3, .inl (.int (0 : Int32))), (2, .inl (.int y3)), (0, .inl (.ref q0)), (1, .inl (.int a1))], [], h2, 0, 0)))
      have lp4 : ∀ m4, m4 ≤ m → ∀ (nc4 : Nat) (ns4 : Nat) (v4_3 : Int32) (h4 : zH), kOK W_X5_tillNA T T h h4 → G m4 (Pf (fx (B_X5_tillNA_29 (D + 1) q0 a1 y3) (0, []) (v4_3, h4))) (29, [(0, .inl (.ref q0)), (1, .inl (.int a1)), (2, .inl (.int y3)), (3, .inl (.int v4_3))], [], h4, nc4, ns4) := by
        intro m4
        induction m4 with
        | zero =>
          intros
          exact k_zero HG
        | succ m4 ih4 =>
          intro le4 nc4 ns4 v4_3 h4 K4
          have le4 := Nat.le_of_succ_le le4
          have ih4 := ih4 le4
          refine k_fx ?_
          rw [B_X5_tillNA_29]
          refine k_first HG 1 (zB_iff.mpr (?_ : G m4 _ (31, [(0, .inl (.ref q0)), (1, .inl (.int a1)), (2, .inl (.int y3)), (3, .inl (.int v4_3))], [.inl (.ref q0), .inl (.int v4_3)], h4, nc4, ns4)))
          refine k_getI HG rfl K4 hq_q0 rfl (Nat.le_of_ble_eq_true rfl) rfl (?_ : G m4 _ (34, [(0, .inl (.ref q0)), (1, .inl (.int a1)), (2, .inl (.int y3)), (3, .inl (.int v4_3))], [.inl (.int (hv h4 q0 38)), .inl (.int v4_3)], h4, nc4, ns4))
          refine k_steps HG 1 (zB_iff.mpr (?_ : G m4 _ (35, [(0, .inl (.ref q0)), (1, .inl (.int a1)), (2, .inl (.int y3)), (3, .inl (.int v4_3))], [.inl (.int y3), .inl (.int (hv h4 q0 38)), .inl (.int v4_3)], h4, nc4, ns4)))
          refine k_cSI HG (E' := ze_X5_bits) (Or.inl rfl) hsc rfl rfl rfl rfl (fun hh => x_X5_bits hsc hh) (fun y5 => (?_ : G m4 _ (38, [(0, .inl (.ref q0)), (1, .inl (.int a1)), (2, .inl (.int y3)), (3, .inl (.int v4_3))], [.inl (.int y5), .inl (.int (hv h4 q0 38)), .inl (.int v4_3)], h4, nc4, ns4)))
          refine k_steps HG 2 (kb_gt (x := v4_3) (y := ((hv h4 q0 38) - y5)) ?_ ?_)
          · show G m4 _ (61, [(0, .inl (.ref q0)), (1, .inl (.int a1)), (2, .inl (.int y3)), (3, .inl (.int v4_3))], [], h4, nc4, ns4)
            refine k_steps HG 1 (zB_iff.mpr (?_ : G m4 _ (63, [(0, .inl (.ref q0)), (1, .inl (.int a1)), (2, .inl (.int y3)), (3, .inl (.int v4_3))], [.inl (.int (60 : Int32))], h4, nc4, ns4)))
            exact k_reti HG rfl rfl (fun e1 e2 => hR _ _ e1 e2 K4 trivial)
          · show G m4 _ (42, [(0, .inl (.ref q0)), (1, .inl (.int a1)), (2, .inl (.int y3)), (3, .inl (.int v4_3))], [], h4, nc4, ns4)
            refine k_steps HG 3 (zB_iff.mpr (?_ : G m4 _ (45, [(0, .inl (.ref q0)), (1, .inl (.int a1)), (2, .inl (.int y3)), (3, .inl (.int v4_3))], [.inl (.int v4_3), .inl (.int y3), .inl (.ref q0)], h4, nc4, ns4)))
            refine k_cVJHd HG (E' := ze_X5_valueAt) (Or.inl ⟨rfl, rfl⟩) hsc rfl rfl rfl K4 rfl (fun hh => x_X5_valueAt hsc K4.1 hq_q0 (kN_of V_35 K4 hq_q0 rfl) hh) (fun y6 K6 Q6 => (?_ : G m4 _ (48, [(0, .inl (.ref q0)), (1, .inl (.int a1)), (2, .inl (.int y3)), (3, .inl (.int v4_3))], [.inl (.long y6.1)], y6.2, nc4, ns4)))
            refine k_steps HG 3 (t_and2 (zisI_lcmp y6.1 (0 : Int64)) (kl_ne (x := y6.1) (y := (0 : Int64)) ?_ ?_))
            · show G m4 _ (55, [(0, .inl (.ref q0)), (1, .inl (.int a1)), (2, .inl (.int y3)), (3, .inl (.int v4_3))], [], y6.2, nc4, ns4)
              refine k_steps HG 2 (zB_iff.mpr (?_ : G m4 _ (29, [(3, .inl (.int (v4_3 + (1 : Int32)))), (0, .inl (.ref q0)), (1, .inl (.int a1)), (2, .inl (.int y3))], [], y6.2, nc4, ns4)))
              refine k_ext HG (L' := [(0, .inl (.ref q0)), (1, .inl (.int a1)), (2, .inl (.int y3)), (3, .inl (.int (v4_3 + (1 : Int32))))]) rfl rfl ⟨rfl, rfl, rfl, rfl, trivial⟩ ?_
              exact ih4 _ _ _ _ K6
            · show G m4 _ (53, [(0, .inl (.ref q0)), (1, .inl (.int a1)), (2, .inl (.int y3)), (3, .inl (.int v4_3))], [], y6.2, nc4, ns4)
              refine k_steps HG 1 (zB_iff.mpr (?_ : G m4 _ (54, [(0, .inl (.ref q0)), (1, .inl (.int a1)), (2, .inl (.int y3)), (3, .inl (.int v4_3))], [.inl (.int v4_3)], y6.2, nc4, ns4)))
              exact k_reti HG rfl rfl (fun e1 e2 => hR _ _ e1 e2 K6 trivial)
      refine k_ext HG (L' := [(0, .inl (.ref q0)), (1, .inl (.int a1)), (2, .inl (.int y3)), (3, .inl (.int (0 : Int32)))]) rfl rfl ⟨rfl, rfl, rfl, rfl, trivial⟩ ?_
      exact lp4 m (Nat.le_refl _) _ _ _ _ K2
    · show G m _ (8, [(0, .inl (.ref q0)), (1, .inl (.int a1))], [], h, 0, 0)
      refine k_steps HG 2 (zB_iff.mpr (?_ : G m _ (11, [(0, .inl (.ref q0)), (1, .inl (.int a1))], [.inl (.int (-2 : Int32)), .inl (.ref q0)], h, 0, 0)))
      refine k_cVIH HG (E' := ze_X5_refuse) (Or.inl ⟨rfl, rfl⟩) hsc rfl rfl rfl rfl rfl K rfl (fun hh => x_X5_refuse hsc K.1 hq_q0 hh) (fun y7 K7 => (?_ : G m _ (14, [(0, .inl (.ref q0)), (1, .inl (.int a1))], [.inl (.int y7.1)], y7.2, 0, 0)))
      exact k_reti HG rfl rfl (fun e1 e2 => hR _ _ e1 e2 K7 trivial)
def W_X5_meanNA : List (Nat × Nat) := [(5, 36), (5, 37), (5, 38), (5, 39), (30, 1000), (42, 1000)]
noncomputable def F_X5_meanNA (D : Nat) (h : zH) (q0 : Nat) (a1 : Int32) (a2 : Int32) : Int32 × zH := (letf (F_X5_isBuyer h q0 a1) (fun y1 => (if y1 = (0 : Int32) then (letf (F_X5_refuse h q0 (-2 : Int32)) (fun y2 => (y2.1, y2.2))) else (letf (F_X5_in (Int32.toInt64 a2) (0 : Int64) (8 : Int64)) (fun y3 => (if y3 = (0 : Int32) then (letf (F_X5_refuse h q0 (-2 : Int32)) (fun y4 => (y4.1, y4.2))) else (letf (F_X5_meanOfNA (D - 1) h q0 a1 a2) (fun y5 => ((Int64.toInt32 y5.1), y5.2)))))))))
theorem x_X5_meanNA {scr : List zV} {D : Nat} {T : List Nat} {h : zH} {q0 : Nat} {a1 : Int32} {a2 : Int32} (hsc : cT scr) (K : hOK kty T h) (hq_q0 : T[q0]? = some 5) (V_35 : kN T h q0 35 41) (hh : cH h) : xIHd scr W_X5_meanNA T T (fun _ => True) D 256 [.inl (.ref q0), .inl (.int a1), .inl (.int a2)] h (F_X5_meanNA D h q0 a1 a2) := by
  cases D with
  | zero => exact fun _ _ hx => absurd hx (fun q => xD_zero q)
  | succ D =>
    refine xIHd_intro (E := ze_X5_meanN) hsc rfl (cTb_ok rfl) hh (fun r h' G HG Pf hR m => ?_)
    have K := kOK_refl (W := W_X5_meanNA) K
    unfold F_X5_meanNA
    show G m _ (0, [(0, .inl (.ref q0)), (1, .inl (.int a1)), (2, .inl (.int a2))], [], h, 0, 0)
    refine k_steps HG 2 (zB_iff.mpr (?_ : G m _ (2, [(0, .inl (.ref q0)), (1, .inl (.int a1)), (2, .inl (.int a2))], [.inl (.int a1), .inl (.ref q0)], h, 0, 0)))
    refine k_cVI HG (E' := ze_X5_isBuyer) (Or.inl ⟨rfl, rfl⟩) hsc rfl rfl rfl rfl rfl (fun hh => x_X5_isBuyer hsc K.1 hq_q0 hh) (fun y1 => (?_ : G m _ (5, [(0, .inl (.ref q0)), (1, .inl (.int a1)), (2, .inl (.int a2))], [.inl (.int y1)], h, 0, 0)))
    refine k_steps HG 1 (kb_eq (x := y1) (y := (0 : Int32)) ?_ ?_)
    · show G m _ (30, [(0, .inl (.ref q0)), (1, .inl (.int a1)), (2, .inl (.int a2))], [], h, 0, 0)
      refine k_steps HG 2 (zB_iff.mpr (?_ : G m _ (33, [(0, .inl (.ref q0)), (1, .inl (.int a1)), (2, .inl (.int a2))], [.inl (.int (-2 : Int32)), .inl (.ref q0)], h, 0, 0)))
      refine k_cVIH HG (E' := ze_X5_refuse) (Or.inl ⟨rfl, rfl⟩) hsc rfl rfl rfl rfl rfl K rfl (fun hh => x_X5_refuse hsc K.1 hq_q0 hh) (fun y2 K2 => (?_ : G m _ (36, [(0, .inl (.ref q0)), (1, .inl (.int a1)), (2, .inl (.int a2))], [.inl (.int y2.1)], y2.2, 0, 0)))
      exact k_reti HG rfl rfl (fun e1 e2 => hR _ _ e1 e2 K2 trivial)
    · show G m _ (8, [(0, .inl (.ref q0)), (1, .inl (.int a1)), (2, .inl (.int a2))], [], h, 0, 0)
      refine k_steps HG 4 (zB_iff.mpr (?_ : G m _ (14, [(0, .inl (.ref q0)), (1, .inl (.int a1)), (2, .inl (.int a2))], [.inl (.long (8 : Int64)), .inl (.long (0 : Int64)), .inl (.long (Int32.toInt64 a2))], h, 0, 0)))
      refine k_cSI HG (E' := ze_X5_in) (Or.inl rfl) hsc rfl rfl rfl rfl (fun hh => x_X5_in hsc hh) (fun y3 => (?_ : G m _ (17, [(0, .inl (.ref q0)), (1, .inl (.int a1)), (2, .inl (.int a2))], [.inl (.int y3)], h, 0, 0)))
      refine k_steps HG 1 (kb_eq (x := y3) (y := (0 : Int32)) ?_ ?_)
      · show G m _ (30, [(0, .inl (.ref q0)), (1, .inl (.int a1)), (2, .inl (.int a2))], [], h, 0, 0)
        refine k_steps HG 2 (zB_iff.mpr (?_ : G m _ (33, [(0, .inl (.ref q0)), (1, .inl (.int a1)), (2, .inl (.int a2))], [.inl (.int (-2 : Int32)), .inl (.ref q0)], h, 0, 0)))
        refine k_cVIH HG (E' := ze_X5_refuse) (Or.inl ⟨rfl, rfl⟩) hsc rfl rfl rfl rfl rfl K rfl (fun hh => x_X5_refuse hsc K.1 hq_q0 hh) (fun y4 K4 => (?_ : G m _ (36, [(0, .inl (.ref q0)), (1, .inl (.int a1)), (2, .inl (.int a2))], [.inl (.int y4.1)], y4.2, 0, 0)))
        exact k_reti HG rfl rfl (fun e1 e2 => hR _ _ e1 e2 K4 trivial)
      · show G m _ (20, [(0, .inl (.ref q0)), (1, .inl (.int a1)), (2, .inl (.int a2))], [], h, 0, 0)
        refine k_steps HG 3 (zB_iff.mpr (?_ : G m _ (23, [(0, .inl (.ref q0)), (1, .inl (.int a1)), (2, .inl (.int a2))], [.inl (.int a2), .inl (.int a1), .inl (.ref q0)], h, 0, 0)))
        refine k_cVJHd HG (E' := ze_X5_meanOfN) (Or.inl ⟨rfl, rfl⟩) hsc rfl rfl rfl K rfl (fun hh => x_X5_meanOfNA hsc K.1 hq_q0 (kN_of V_35 K hq_q0 rfl) hh) (fun y5 K5 Q5 => (?_ : G m _ (26, [(0, .inl (.ref q0)), (1, .inl (.int a1)), (2, .inl (.int a2))], [.inl (.long y5.1)], y5.2, 0, 0)))
        refine k_steps HG 2 (zB_iff.mpr (?_ : G m _ (36, [(0, .inl (.ref q0)), (1, .inl (.int a1)), (2, .inl (.int a2))], [.inl (.int (Int64.toInt32 y5.1))], y5.2, 0, 0)))
        exact k_reti HG rfl rfl (fun e1 e2 => hR _ _ e1 e2 K5 trivial)
def W_X5_atOnceNA : List (Nat × Nat) := [(5, 36), (5, 37), (5, 38), (5, 39), (30, 1000), (42, 1000)]
noncomputable def F_X5_atOnceNA (D : Nat) (h : zH) (q0 : Nat) (a1 : Int32) : Int32 × zH := (letf (F_X5_isBuyer h q0 a1) (fun y1 => (if y1 = (0 : Int32) then (letf (F_X5_refuse h q0 (-2 : Int32)) (fun y3 => (((-10000000 : Int32) + y3.1), y3.2))) else (letf (F_X5_meanOfNA (D - 1) h q0 a1 (5 : Int32)) (fun y2 => ((Int64.toInt32 (y2.1 - ((1000 : Int64) * (Int32.toInt64 (hv y2.2 q0 12))))), y2.2))))))
theorem x_X5_atOnceNA {scr : List zV} {D : Nat} {T : List Nat} {h : zH} {q0 : Nat} {a1 : Int32} (hsc : cT scr) (K : hOK kty T h) (hq_q0 : T[q0]? = some 5) (V_35 : kN T h q0 35 41) (hh : cH h) : xIHd scr W_X5_atOnceNA T T (fun _ => True) D 257 [.inl (.ref q0), .inl (.int a1)] h (F_X5_atOnceNA D h q0 a1) := by
  cases D with
  | zero => exact fun _ _ hx => absurd hx (fun q => xD_zero q)
  | succ D =>
    refine xIHd_intro (E := ze_X5_atOnceN) hsc rfl (cTb_ok rfl) hh (fun r h' G HG Pf hR m => ?_)
    have K := kOK_refl (W := W_X5_atOnceNA) K
    unfold F_X5_atOnceNA
    show G m _ (0, [(0, .inl (.ref q0)), (1, .inl (.int a1))], [], h, 0, 0)
    refine k_steps HG 2 (zB_iff.mpr (?_ : G m _ (2, [(0, .inl (.ref q0)), (1, .inl (.int a1))], [.inl (.int a1), .inl (.ref q0)], h, 0, 0)))
    refine k_cVI HG (E' := ze_X5_isBuyer) (Or.inl ⟨rfl, rfl⟩) hsc rfl rfl rfl rfl rfl (fun hh => x_X5_isBuyer hsc K.1 hq_q0 hh) (fun y1 => (?_ : G m _ (5, [(0, .inl (.ref q0)), (1, .inl (.int a1))], [.inl (.int y1)], h, 0, 0)))
    refine k_steps HG 1 (kb_ne (x := y1) (y := (0 : Int32)) ?_ ?_)
    · show G m _ (19, [(0, .inl (.ref q0)), (1, .inl (.int a1))], [], h, 0, 0)
      refine k_steps HG 3 (zB_iff.mpr (?_ : G m _ (22, [(0, .inl (.ref q0)), (1, .inl (.int a1))], [.inl (.int (5 : Int32)), .inl (.int a1), .inl (.ref q0)], h, 0, 0)))
      refine k_cVJHd HG (E' := ze_X5_meanOfN) (Or.inl ⟨rfl, rfl⟩) hsc rfl rfl rfl K rfl (fun hh => x_X5_meanOfNA hsc K.1 hq_q0 (kN_of V_35 K hq_q0 rfl) hh) (fun y2 K2 Q2 => (?_ : G m _ (25, [(0, .inl (.ref q0)), (1, .inl (.int a1))], [.inl (.long y2.1)], y2.2, 0, 0)))
      refine k_steps HG 2 (zB_iff.mpr (?_ : G m _ (29, [(0, .inl (.ref q0)), (1, .inl (.int a1))], [.inl (.ref q0), .inl (.long (1000 : Int64)), .inl (.long y2.1)], y2.2, 0, 0)))
      refine k_getI HG rfl K2 hq_q0 rfl (Nat.le_of_ble_eq_true rfl) rfl (?_ : G m _ (32, [(0, .inl (.ref q0)), (1, .inl (.int a1))], [.inl (.int (hv y2.2 q0 12)), .inl (.long (1000 : Int64)), .inl (.long y2.1)], y2.2, 0, 0))
      refine k_steps HG 4 (zB_iff.mpr (?_ : G m _ (36, [(0, .inl (.ref q0)), (1, .inl (.int a1))], [.inl (.int (Int64.toInt32 (y2.1 - ((1000 : Int64) * (Int32.toInt64 (hv y2.2 q0 12))))))], y2.2, 0, 0)))
      exact k_reti HG rfl rfl (fun e1 e2 => hR _ _ e1 e2 K2 trivial)
    · show G m _ (8, [(0, .inl (.ref q0)), (1, .inl (.int a1))], [], h, 0, 0)
      refine k_steps HG 3 (zB_iff.mpr (?_ : G m _ (14, [(0, .inl (.ref q0)), (1, .inl (.int a1))], [.inl (.int (-2 : Int32)), .inl (.ref q0), .inl (.int (-10000000 : Int32))], h, 0, 0)))
      refine k_cVIH HG (E' := ze_X5_refuse) (Or.inl ⟨rfl, rfl⟩) hsc rfl rfl rfl rfl rfl K rfl (fun hh => x_X5_refuse hsc K.1 hq_q0 hh) (fun y3 K3 => (?_ : G m _ (17, [(0, .inl (.ref q0)), (1, .inl (.int a1))], [.inl (.int y3.1), .inl (.int (-10000000 : Int32))], y3.2, 0, 0)))
      refine k_steps HG 1 (zB_iff.mpr (?_ : G m _ (18, [(0, .inl (.ref q0)), (1, .inl (.int a1))], [.inl (.int ((-10000000 : Int32) + y3.1))], y3.2, 0, 0)))
      exact k_reti HG rfl rfl (fun e1 e2 => hR _ _ e1 e2 K3 trivial)
def W_X5_playsNA : List (Nat × Nat) := [(5, 13), (5, 14), (5, 15), (5, 36), (5, 37), (5, 38), (5, 39), (30, 1000), (31, 1000), (35, 1000), (36, 1000), (37, 1000), (42, 1000)]
noncomputable def B_X5_playsNA_17 (D : Nat) (c0 : Nat) (c1 : Int32) (s : (Int32 × zH)) : (Int32 × zH) ⊕ (Int32 × zH) := (if (hv s.2 (hr s.2 c0 24) c1.toNatClampNeg) < (hv s.2 c0 11) then (Sum.inr (s.1, s.2)) else (letf (F_X5_planOfNA (D - 1) s.2 c0 c1) (fun y1002 => (if (0 : Int32) < y1002.1 then (letf (F_X5_goesOne y1002.2 c0 c1) (fun y1003 => (Sum.inl ((s.1 + (1 : Int32)), y1003.2)))) else (Sum.inr (s.1, y1002.2))))))
noncomputable def F_X5_playsNA (D : Nat) (h : zH) (q0 : Nat) (a1 : Int32) : Int32 × zH := (letf (F_X5_isBuyer h q0 a1) (fun y1 => (if y1 = (0 : Int32) then (letf (F_X5_refuse h q0 (-2 : Int32)) (fun y6 => (y6.1, y6.2))) else (fx (B_X5_playsNA_17 D q0 a1) (0, []) ((0 : Int32), h)))))
theorem x_X5_playsNA {scr : List zV} {D : Nat} {T : List Nat} {h : zH} {q0 : Nat} {a1 : Int32} (hsc : cT scr) (K : hOK kty T h) (hq_q0 : T[q0]? = some 5) (V_35 : kN T h q0 35 41) (hh : cH h) : xIHd scr W_X5_playsNA T T (fun _ => True) D 258 [.inl (.ref q0), .inl (.int a1)] h (F_X5_playsNA D h q0 a1) := by
  cases D with
  | zero => exact fun _ _ hx => absurd hx (fun q => xD_zero q)
  | succ D =>
    refine xIHd_intro (E := ze_X5_playsN) hsc rfl (cTb_ok rfl) hh (fun r h' G HG Pf hR m => ?_)
    have K := kOK_refl (W := W_X5_playsNA) K
    unfold F_X5_playsNA
    show G m _ (0, [(0, .inl (.ref q0)), (1, .inl (.int a1))], [], h, 0, 0)
    refine k_steps HG 2 (zB_iff.mpr (?_ : G m _ (2, [(0, .inl (.ref q0)), (1, .inl (.int a1))], [.inl (.int a1), .inl (.ref q0)], h, 0, 0)))
    refine k_cVI HG (E' := ze_X5_isBuyer) (Or.inl ⟨rfl, rfl⟩) hsc rfl rfl rfl rfl rfl (fun hh => x_X5_isBuyer hsc K.1 hq_q0 hh) (fun y1 => (?_ : G m _ (5, [(0, .inl (.ref q0)), (1, .inl (.int a1))], [.inl (.int y1)], h, 0, 0)))
    refine k_steps HG 1 (kb_ne (x := y1) (y := (0 : Int32)) ?_ ?_)
    · show G m _ (15, [(0, .inl (.ref q0)), (1, .inl (.int a1))], [], h, 0, 0)
      refine k_steps HG 2 (zB_iff.mpr (?_ : G m _ (17, [(2, .inl (.int (0 : Int32))), (0, .inl (.ref q0)), (1, .inl (.int a1))], [], h, 0, 0)))
      have lp2 : ∀ m2, m2 ≤ m → ∀ (nc2 : Nat) (ns2 : Nat) (v2_2 : Int32) (h2 : zH), kOK W_X5_playsNA T T h h2 → G m2 (Pf (fx (B_X5_playsNA_17 (D + 1) q0 a1) (0, []) (v2_2, h2))) (17, [(0, .inl (.ref q0)), (1, .inl (.int a1)), (2, .inl (.int v2_2))], [], h2, nc2, ns2) := by
        intro m2
        induction m2 with
        | zero =>
          intros
          exact k_zero HG
        | succ m2 ih2 =>
          intro le2 nc2 ns2 v2_2 h2 K2
          have le2 := Nat.le_of_succ_le le2
          have ih2 := ih2 le2
          refine k_fx ?_
          rw [B_X5_playsNA_17]
          refine k_first HG 0 (zB_iff.mpr (?_ : G m2 _ (18, [(0, .inl (.ref q0)), (1, .inl (.int a1)), (2, .inl (.int v2_2))], [.inl (.ref q0)], h2, nc2, ns2)))
          refine k_getR HG rfl K2 hq_q0 rfl (Nat.le_of_ble_eq_true rfl) rfl rfl (fun t3 => (?_ : G m2 _ (21, [(0, .inl (.ref q0)), (1, .inl (.int a1)), (2, .inl (.int v2_2))], [.inl (.ref (hr h2 q0 24))], h2, nc2, ns2)))
          refine k_steps HG 1 (zB_iff.mpr (?_ : G m2 _ (22, [(0, .inl (.ref q0)), (1, .inl (.int a1)), (2, .inl (.int v2_2))], [.inl (.int a1), .inl (.ref (hr h2 q0 24))], h2, nc2, ns2)))
          refine k_iald HG rfl K2 t3 rfl (fun _ => rfl) (?_ : G m2 _ (23, [(0, .inl (.ref q0)), (1, .inl (.int a1)), (2, .inl (.int v2_2))], [.inl (.int (hv h2 (hr h2 q0 24) a1.toNatClampNeg))], h2, nc2, ns2))
          refine k_steps HG 1 (zB_iff.mpr (?_ : G m2 _ (24, [(0, .inl (.ref q0)), (1, .inl (.int a1)), (2, .inl (.int v2_2))], [.inl (.ref q0), .inl (.int (hv h2 (hr h2 q0 24) a1.toNatClampNeg))], h2, nc2, ns2)))
          refine k_getI HG rfl K2 hq_q0 rfl (Nat.le_of_ble_eq_true rfl) rfl (?_ : G m2 _ (27, [(0, .inl (.ref q0)), (1, .inl (.int a1)), (2, .inl (.int v2_2))], [.inl (.int (hv h2 q0 11)), .inl (.int (hv h2 (hr h2 q0 24) a1.toNatClampNeg))], h2, nc2, ns2))
          refine k_steps HG 1 (kb_lt (x := (hv h2 (hr h2 q0 24) a1.toNatClampNeg)) (y := (hv h2 q0 11)) ?_ ?_)
          · show G m2 _ (50, [(0, .inl (.ref q0)), (1, .inl (.int a1)), (2, .inl (.int v2_2))], [], h2, nc2, ns2)
            refine k_steps HG 1 (zB_iff.mpr (?_ : G m2 _ (51, [(0, .inl (.ref q0)), (1, .inl (.int a1)), (2, .inl (.int v2_2))], [.inl (.int v2_2)], h2, nc2, ns2)))
            exact k_reti HG rfl rfl (fun e1 e2 => hR _ _ e1 e2 K2 trivial)
          · show G m2 _ (30, [(0, .inl (.ref q0)), (1, .inl (.int a1)), (2, .inl (.int v2_2))], [], h2, nc2, ns2)
            refine k_steps HG 2 (zB_iff.mpr (?_ : G m2 _ (32, [(0, .inl (.ref q0)), (1, .inl (.int a1)), (2, .inl (.int v2_2))], [.inl (.int a1), .inl (.ref q0)], h2, nc2, ns2)))
            refine k_cVIHd HG (E' := ze_X5_planOfN) (Or.inl ⟨rfl, rfl⟩) hsc rfl rfl rfl K2 rfl (fun hh => x_X5_planOfNA hsc K2.1 hq_q0 (kN_of V_35 K2 hq_q0 rfl) hh) (fun y4 K4 Q4 => (?_ : G m2 _ (35, [(0, .inl (.ref q0)), (1, .inl (.int a1)), (2, .inl (.int v2_2))], [.inl (.int y4.1)], y4.2, nc2, ns2)))
            refine k_steps HG 1 (kb_le (x := y4.1) (y := (0 : Int32)) ?_ ?_)
            · show G m2 _ (50, [(0, .inl (.ref q0)), (1, .inl (.int a1)), (2, .inl (.int v2_2))], [], y4.2, nc2, ns2)
              refine k_steps HG 1 (zB_iff.mpr (?_ : G m2 _ (51, [(0, .inl (.ref q0)), (1, .inl (.int a1)), (2, .inl (.int v2_2))], [.inl (.int v2_2)], y4.2, nc2, ns2)))
              exact k_reti HG rfl rfl (fun e1 e2 => hR _ _ e1 e2 K4 trivial)
            · show G m2 _ (38, [(0, .inl (.ref q0)), (1, .inl (.int a1)), (2, .inl (.int v2_2))], [], y4.2, nc2, ns2)
              refine k_steps HG 2 (zB_iff.mpr (?_ : G m2 _ (40, [(0, .inl (.ref q0)), (1, .inl (.int a1)), (2, .inl (.int v2_2))], [.inl (.int a1), .inl (.ref q0)], y4.2, nc2, ns2)))
              refine k_cVIH HG (E' := ze_X5_goesOne) (Or.inl ⟨rfl, rfl⟩) hsc rfl rfl rfl rfl rfl K4 rfl (fun hh => x_X5_goesOne hsc K4.1 hq_q0 hh) (fun y5 K5 => (?_ : G m2 _ (43, [(0, .inl (.ref q0)), (1, .inl (.int a1)), (2, .inl (.int v2_2))], [.inl (.int y5.1)], y5.2, nc2, ns2)))
              refine k_steps HG 3 (zB_iff.mpr (?_ : G m2 _ (17, [(2, .inl (.int (v2_2 + (1 : Int32)))), (0, .inl (.ref q0)), (1, .inl (.int a1))], [], y5.2, nc2, ns2)))
              refine k_ext HG (L' := [(0, .inl (.ref q0)), (1, .inl (.int a1)), (2, .inl (.int (v2_2 + (1 : Int32))))]) rfl rfl ⟨rfl, rfl, rfl, trivial⟩ ?_
              exact ih2 _ _ _ _ K5
      refine k_ext HG (L' := [(0, .inl (.ref q0)), (1, .inl (.int a1)), (2, .inl (.int (0 : Int32)))]) rfl rfl ⟨rfl, rfl, rfl, trivial⟩ ?_
      exact lp2 m (Nat.le_refl _) _ _ _ _ K
    · show G m _ (8, [(0, .inl (.ref q0)), (1, .inl (.int a1))], [], h, 0, 0)
      refine k_steps HG 2 (zB_iff.mpr (?_ : G m _ (11, [(0, .inl (.ref q0)), (1, .inl (.int a1))], [.inl (.int (-2 : Int32)), .inl (.ref q0)], h, 0, 0)))
      refine k_cVIH HG (E' := ze_X5_refuse) (Or.inl ⟨rfl, rfl⟩) hsc rfl rfl rfl rfl rfl K rfl (fun hh => x_X5_refuse hsc K.1 hq_q0 hh) (fun y6 K6 => (?_ : G m _ (14, [(0, .inl (.ref q0)), (1, .inl (.int a1))], [.inl (.int y6.1)], y6.2, 0, 0)))
      exact k_reti HG rfl rfl (fun e1 e2 => hR _ _ e1 e2 K6 trivial)
