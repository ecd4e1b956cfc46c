def W_X5_wrongInA : List (Nat × Nat) := [(5, 40), (6, 9), (6, 10), (6, 11), (6, 12), (6, 13), (6, 14), (6, 15), (6, 17), (6, 23), (31, 1000), (32, 1000), (33, 1000), (34, 1000), (35, 1000), (36, 1000), (37, 1000), (39, 1000)]
noncomputable def B_X5_wrongInA_13 (c0 : Nat) (c1 : Nat) (c2 : Int32) (c3 : Nat) (s : (Int32 × zH)) : (Int32 × zH) ⊕ (Int32 × zH) := (if s.1 < c2 then (letf (F_X5_in (hJ s.2 c1 s.1.toNatClampNeg) (1 : Int64) (Int32.toInt64 (hv s.2 c0 9))) (fun y1001 => (if y1001 = (0 : Int32) then (Sum.inr (s.1, s.2)) else (letf (F_X5_canDraw_6 s.2 c3 (Int64.toInt32 (hJ s.2 c1 s.1.toNatClampNeg))) (fun y1002 => (if y1002 = (0 : Int32) then (Sum.inr (s.1, s.2)) else (letf (F_X5_comesOut_6 s.2 c3 (Int64.toInt32 (hJ s.2 c1 s.1.toNatClampNeg)) (0 : Int32)) (fun y1003 => (letf (hput y1003.2 c0 40 (.inl (.int ((hv s.2 c0 40) ||| y1003.1)))) (fun h1004 => (Sum.inl ((s.1 + (1 : Int32)), h1004)))))))))))) else (Sum.inr ((-1 : Int32), s.2)))
noncomputable def F_X5_wrongInA (h : zH) (q0 : Nat) (q1 : Nat) (a2 : Int32) : Int32 × zH := (letf (F_X5_freshA h q0) (fun y1 => (letf (hput y1.2 q0 40 (.inl (.int (0 : Int32)))) (fun h2 => (fx (B_X5_wrongInA_13 q0 q1 a2 y1.1) (0, []) ((0 : Int32), h2))))))
theorem x_X5_wrongInA {scr : List zV} {D : Nat} {T : List Nat} {h : zH} {q0 : Nat} {q1 : Nat} {a2 : Int32} (hsc : cT scr) (K : hOK kty T h) (hq_q0 : T[q0]? = some 5) (hq_q1 : T[q1]? = some 28) (V_27 : kN T h q0 27 6) (hh : cH h) : xIHd scr W_X5_wrongInA T T (fun _ => True) D 250 [.inl (.ref q0), .inl (.ref q1), .inl (.int a2)] h (F_X5_wrongInA h q0 q1 a2) := by
  cases D with
  | zero => exact fun _ _ hx => absurd hx (fun q => xD_zero q)
  | succ D =>
    refine xIHd_intro (E := ze_X5_wrongIn) hsc rfl (cTb_ok rfl) hh (fun r h' G HG Pf hR m => ?_)
    have K := kOK_refl (W := W_X5_wrongInA) K
    unfold F_X5_wrongInA
    show G m _ (0, [(0, .inl (.ref q0)), (1, .inl (.ref q1)), (2, .inl (.int a2))], [], h, 0, 0)
    refine k_steps HG 1 (zB_iff.mpr (?_ : G m _ (1, [(0, .inl (.ref q0)), (1, .inl (.ref q1)), (2, .inl (.int a2))], [.inl (.ref q0)], h, 0, 0)))
    refine k_cVRHd HG (E' := ze_X5_fresh) (Or.inl ⟨rfl, rfl⟩) hsc rfl rfl rfl K rfl (fun hh => x_X5_freshA hsc K.1 hq_q0 (kN_of V_27 K hq_q0 rfl) hh) (fun y1 K1 Q1 => (?_ : G m _ (4, [(0, .inl (.ref q0)), (1, .inl (.ref q1)), (2, .inl (.int a2))], [.inl (.ref y1.1)], y1.2, (0 + zEc ze_X5_fresh), (0 + zEs ze_X5_fresh))))
    refine k_steps HG 3 (zB_iff.mpr (?_ : G m _ (7, [(3, .inl (.ref y1.1)), (0, .inl (.ref q0)), (1, .inl (.ref q1)), (2, .inl (.int a2))], [.inl (.int (0 : Int32)), .inl (.ref q0)], y1.2, (0 + zEc ze_X5_fresh), (0 + zEs ze_X5_fresh))))
    refine k_putI HG rfl K1 hq_q0 rfl rfl rfl (fun h2 K2 => (?_ : G m _ (10, [(3, .inl (.ref y1.1)), (0, .inl (.ref q0)), (1, .inl (.ref q1)), (2, .inl (.int a2))], [], h2, (0 + zEc ze_X5_fresh), (0 + zEs ze_X5_fresh))))
    refine k_steps HG 2 (zB_iff.mpr (?_ : G m _ (13, [(4, .inl (.int (0 : Int32))), (3, .inl (.ref y1.1)), (0, .inl (.ref q0)), (1, .inl (.ref q1)), (2, .inl (.int a2))], [], h2, (0 + zEc ze_X5_fresh), (0 + zEs ze_X5_fresh))))
    have lp3 : ∀ m3, m3 ≤ m → ∀ (nc3 : Nat) (ns3 : Nat) (v3_4 : Int32) (h3 : zH), kOK W_X5_wrongInA T T h h3 → G m3 (Pf (fx (B_X5_wrongInA_13 q0 q1 a2 y1.1) (0, []) (v3_4, h3))) (13, [(0, .inl (.ref q0)), (1, .inl (.ref q1)), (2, .inl (.int a2)), (3, .inl (.ref y1.1)), (4, .inl (.int v3_4))], [], h3, nc3, ns3) := by
      intro m3
      induction m3 with
      | zero =>
        intros
        exact k_zero HG
      | succ m3 ih3 =>
        intro le3 nc3 ns3 v3_4 h3 K3
        have le3 := Nat.le_of_succ_le le3
        have ih3 := ih3 le3
        refine k_fx ?_
        rw [B_X5_wrongInA_13]
        refine k_first HG 2 (kb_ge (x := v3_4) (y := a2) ?_ ?_)
        · show G m3 _ (75, [(0, .inl (.ref q0)), (1, .inl (.ref q1)), (2, .inl (.int a2)), (3, .inl (.ref y1.1)), (4, .inl (.int v3_4))], [], h3, nc3, ns3)
          refine k_steps HG 1 (zB_iff.mpr (?_ : G m3 _ (76, [(0, .inl (.ref q0)), (1, .inl (.ref q1)), (2, .inl (.int a2)), (3, .inl (.ref y1.1)), (4, .inl (.int v3_4))], [.inl (.int (-1 : Int32))], h3, nc3, ns3)))
          exact k_reti HG rfl rfl (fun e1 e2 => hR _ _ e1 e2 K3 trivial)
        · show G m3 _ (19, [(0, .inl (.ref q0)), (1, .inl (.ref q1)), (2, .inl (.int a2)), (3, .inl (.ref y1.1)), (4, .inl (.int v3_4))], [], h3, nc3, ns3)
          refine k_steps HG 2 (zB_iff.mpr (?_ : G m3 _ (22, [(0, .inl (.ref q0)), (1, .inl (.ref q1)), (2, .inl (.int a2)), (3, .inl (.ref y1.1)), (4, .inl (.int v3_4))], [.inl (.int v3_4), .inl (.ref q1)], h3, nc3, ns3)))
          refine k_lald HG rfl K3 hq_q1 rfl (fun _ => rfl) (?_ : G m3 _ (23, [(0, .inl (.ref q0)), (1, .inl (.ref q1)), (2, .inl (.int a2)), (3, .inl (.ref y1.1)), (4, .inl (.int v3_4))], [.inl (.long (hJ h3 q1 v3_4.toNatClampNeg))], h3, nc3, ns3))
          refine k_steps HG 2 (zB_iff.mpr (?_ : G m3 _ (25, [(0, .inl (.ref q0)), (1, .inl (.ref q1)), (2, .inl (.int a2)), (3, .inl (.ref y1.1)), (4, .inl (.int v3_4))], [.inl (.ref q0), .inl (.long (1 : Int64)), .inl (.long (hJ h3 q1 v3_4.toNatClampNeg))], h3, nc3, ns3)))
          refine k_getI HG rfl K3 hq_q0 rfl (Nat.le_of_ble_eq_true rfl) rfl (?_ : G m3 _ (28, [(0, .inl (.ref q0)), (1, .inl (.ref q1)), (2, .inl (.int a2)), (3, .inl (.ref y1.1)), (4, .inl (.int v3_4))], [.inl (.int (hv h3 q0 9)), .inl (.long (1 : Int64)), .inl (.long (hJ h3 q1 v3_4.toNatClampNeg))], h3, nc3, ns3))
          refine k_steps HG 1 (zB_iff.mpr (?_ : G m3 _ (29, [(0, .inl (.ref q0)), (1, .inl (.ref q1)), (2, .inl (.int a2)), (3, .inl (.ref y1.1)), (4, .inl (.int v3_4))], [.inl (.long (Int32.toInt64 (hv h3 q0 9))), .inl (.long (1 : Int64)), .inl (.long (hJ h3 q1 v3_4.toNatClampNeg))], h3, nc3, ns3)))
          refine k_cSI HG (E' := ze_X5_in) (Or.inl rfl) hsc rfl rfl rfl rfl (fun hh => x_X5_in hsc hh) (fun y4 => (?_ : G m3 _ (32, [(0, .inl (.ref q0)), (1, .inl (.ref q1)), (2, .inl (.int a2)), (3, .inl (.ref y1.1)), (4, .inl (.int v3_4))], [.inl (.int y4)], h3, nc3, ns3)))
          refine k_steps HG 1 (kb_eq (x := y4) (y := (0 : Int32)) ?_ ?_)
          · show G m3 _ (47, [(0, .inl (.ref q0)), (1, .inl (.ref q1)), (2, .inl (.int a2)), (3, .inl (.ref y1.1)), (4, .inl (.int v3_4))], [], h3, nc3, ns3)
            refine k_steps HG 1 (zB_iff.mpr (?_ : G m3 _ (49, [(0, .inl (.ref q0)), (1, .inl (.ref q1)), (2, .inl (.int a2)), (3, .inl (.ref y1.1)), (4, .inl (.int v3_4))], [.inl (.int v3_4)], h3, nc3, ns3)))
            exact k_reti HG rfl rfl (fun e1 e2 => hR _ _ e1 e2 K3 trivial)
          · show G m3 _ (35, [(0, .inl (.ref q0)), (1, .inl (.ref q1)), (2, .inl (.int a2)), (3, .inl (.ref y1.1)), (4, .inl (.int v3_4))], [], h3, nc3, ns3)
            refine k_steps HG 3 (zB_iff.mpr (?_ : G m3 _ (39, [(0, .inl (.ref q0)), (1, .inl (.ref q1)), (2, .inl (.int a2)), (3, .inl (.ref y1.1)), (4, .inl (.int v3_4))], [.inl (.int v3_4), .inl (.ref q1), .inl (.ref y1.1)], h3, nc3, ns3)))
            refine k_lald HG rfl K3 hq_q1 rfl (fun _ => rfl) (?_ : G m3 _ (40, [(0, .inl (.ref q0)), (1, .inl (.ref q1)), (2, .inl (.int a2)), (3, .inl (.ref y1.1)), (4, .inl (.int v3_4))], [.inl (.long (hJ h3 q1 v3_4.toNatClampNeg)), .inl (.ref y1.1)], h3, nc3, ns3))
            refine k_steps HG 1 (zB_iff.mpr (?_ : G m3 _ (41, [(0, .inl (.ref q0)), (1, .inl (.ref q1)), (2, .inl (.int a2)), (3, .inl (.ref y1.1)), (4, .inl (.int v3_4))], [.inl (.int (Int64.toInt32 (hJ h3 q1 v3_4.toNatClampNeg))), .inl (.ref y1.1)], h3, nc3, ns3)))
            refine k_cVI HG (E' := ze_X5_canDraw) (Or.inl ⟨rfl, rfl⟩) hsc rfl rfl rfl rfl rfl (fun hh => x_X5_canDraw_6 hsc K3.1 Q1 hh) (fun y5 => (?_ : G m3 _ (44, [(0, .inl (.ref q0)), (1, .inl (.ref q1)), (2, .inl (.int a2)), (3, .inl (.ref y1.1)), (4, .inl (.int v3_4))], [.inl (.int y5)], h3, nc3, ns3)))
            refine k_steps HG 1 (kb_ne (x := y5) (y := (0 : Int32)) ?_ ?_)
            · show G m3 _ (50, [(0, .inl (.ref q0)), (1, .inl (.ref q1)), (2, .inl (.int a2)), (3, .inl (.ref y1.1)), (4, .inl (.int v3_4))], [], h3, nc3, ns3)
              refine k_steps HG 2 (zB_iff.mpr (?_ : G m3 _ (52, [(0, .inl (.ref q0)), (1, .inl (.ref q1)), (2, .inl (.int a2)), (3, .inl (.ref y1.1)), (4, .inl (.int v3_4))], [.inl (.ref q0), .inl (.ref q0)], h3, nc3, ns3)))
              refine k_getI HG rfl K3 hq_q0 rfl (Nat.le_of_ble_eq_true rfl) rfl (?_ : G m3 _ (55, [(0, .inl (.ref q0)), (1, .inl (.ref q1)), (2, .inl (.int a2)), (3, .inl (.ref y1.1)), (4, .inl (.int v3_4))], [.inl (.int (hv h3 q0 40)), .inl (.ref q0)], h3, nc3, ns3))
              refine k_steps HG 3 (zB_iff.mpr (?_ : G m3 _ (59, [(0, .inl (.ref q0)), (1, .inl (.ref q1)), (2, .inl (.int a2)), (3, .inl (.ref y1.1)), (4, .inl (.int v3_4))], [.inl (.int v3_4), .inl (.ref q1), .inl (.ref y1.1), .inl (.int (hv h3 q0 40)), .inl (.ref q0)], h3, nc3, ns3)))
              refine k_lald HG rfl K3 hq_q1 rfl (fun _ => rfl) (?_ : G m3 _ (60, [(0, .inl (.ref q0)), (1, .inl (.ref q1)), (2, .inl (.int a2)), (3, .inl (.ref y1.1)), (4, .inl (.int v3_4))], [.inl (.long (hJ h3 q1 v3_4.toNatClampNeg)), .inl (.ref y1.1), .inl (.int (hv h3 q0 40)), .inl (.ref q0)], h3, nc3, ns3))
              refine k_steps HG 2 (zB_iff.mpr (?_ : G m3 _ (62, [(0, .inl (.ref q0)), (1, .inl (.ref q1)), (2, .inl (.int a2)), (3, .inl (.ref y1.1)), (4, .inl (.int v3_4))], [.inl (.int (0 : Int32)), .inl (.int (Int64.toInt32 (hJ h3 q1 v3_4.toNatClampNeg))), .inl (.ref y1.1), .inl (.int (hv h3 q0 40)), .inl (.ref q0)], h3, nc3, ns3)))
              refine k_cVIH HG (E' := ze_X5_comesOut) (Or.inl ⟨rfl, rfl⟩) hsc rfl rfl rfl rfl rfl K3 rfl (fun hh => x_X5_comesOut_6 hsc K3.1 Q1 hh) (fun y6 K6 => (?_ : G m3 _ (65, [(0, .inl (.ref q0)), (1, .inl (.ref q1)), (2, .inl (.int a2)), (3, .inl (.ref y1.1)), (4, .inl (.int v3_4))], [.inl (.int y6.1), .inl (.int (hv h3 q0 40)), .inl (.ref q0)], y6.2, nc3, ns3)))
              refine k_steps HG 1 (zB_iff.mpr (?_ : G m3 _ (66, [(0, .inl (.ref q0)), (1, .inl (.ref q1)), (2, .inl (.int a2)), (3, .inl (.ref y1.1)), (4, .inl (.int v3_4))], [.inl (.int ((hv h3 q0 40) ||| y6.1)), .inl (.ref q0)], y6.2, nc3, ns3)))
              refine k_putI HG rfl K6 hq_q0 rfl rfl rfl (fun h7 K7 => (?_ : G m3 _ (69, [(0, .inl (.ref q0)), (1, .inl (.ref q1)), (2, .inl (.int a2)), (3, .inl (.ref y1.1)), (4, .inl (.int v3_4))], [], h7, nc3, ns3)))
              refine k_steps HG 2 (zB_iff.mpr (?_ : G m3 _ (13, [(4, .inl (.int (v3_4 + (1 : Int32)))), (0, .inl (.ref q0)), (1, .inl (.ref q1)), (2, .inl (.int a2)), (3, .inl (.ref y1.1))], [], h7, nc3, ns3)))
              refine k_ext HG (L' := [(0, .inl (.ref q0)), (1, .inl (.ref q1)), (2, .inl (.int a2)), (3, .inl (.ref y1.1)), (4, .inl (.int (v3_4 + (1 : Int32))))]) rfl rfl ⟨rfl, rfl, rfl, rfl, rfl, trivial⟩ ?_
              exact ih3 _ _ _ _ K7
            · show G m3 _ (47, [(0, .inl (.ref q0)), (1, .inl (.ref q1)), (2, .inl (.int a2)), (3, .inl (.ref y1.1)), (4, .inl (.int v3_4))], [], h3, nc3, ns3)
              refine k_steps HG 1 (zB_iff.mpr (?_ : G m3 _ (49, [(0, .inl (.ref q0)), (1, .inl (.ref q1)), (2, .inl (.int a2)), (3, .inl (.ref y1.1)), (4, .inl (.int v3_4))], [.inl (.int v3_4)], h3, nc3, ns3)))
              exact k_reti HG rfl rfl (fun e1 e2 => hR _ _ e1 e2 K3 trivial)
    refine k_ext HG (L' := [(0, .inl (.ref q0)), (1, .inl (.ref q1)), (2, .inl (.int a2)), (3, .inl (.ref y1.1)), (4, .inl (.int (0 : Int32)))]) rfl rfl ⟨rfl, rfl, rfl, rfl, rfl, trivial⟩ ?_
    exact lp3 m (Nat.le_refl _) _ _ _ _ K2
def W_X5_stallA : List (Nat × Nat) := [(5, 7), (5, 9), (5, 10), (5, 11), (5, 12), (5, 13), (5, 14), (5, 15), (5, 17), (5, 23), (5, 28), (5, 29), (5, 30), (5, 31), (5, 32), (5, 34), (6, 9), (6, 10), (6, 11), (6, 12), (6, 13), (6, 14), (6, 15), (6, 17), (6, 23), (30, 1000), (31, 1000), (32, 1000), (33, 1000), (34, 1000), (35, 1000), (36, 1000), (37, 1000), (39, 1000), (40, 1000)]
noncomputable def F_X5_stallA (h : zH) (q0 : Nat) : Int32 × zH := (letf (F_X5_freshA h q0) (fun y1 => (letf (F_X5_readAll y1.2 q0) (fun y2 => (letf (hput y2.2 q0 7 (.inl (.int (0 : Int32)))) (fun h3 => (if y2.1 = (0 : Int32) then (letf (F_X5_takeFrom_56 h3 q0 y1.1) (fun h4 => (letf (F_X5_refuse h4 q0 (-2 : Int32)) (fun y5 => (((-20 : Int32) - (hv y5.2 q0 32)), y5.2))))) else ((hv h3 q0 34), h3))))))))
theorem x_X5_stallA {scr : List zV} {D : Nat} {T : List Nat} {h : zH} {q0 : Nat} (hsc : cT scr) (K : hOK kty T h) (hq_q0 : T[q0]? = some 5) (V_27 : kN T h q0 27 6) (hh : cH h) : xIHd scr W_X5_stallA T T (fun _ => True) D 225 [.inl (.ref q0)] h (F_X5_stallA h q0) := by
  cases D with
  | zero => exact fun _ _ hx => absurd hx (fun q => xD_zero q)
  | succ D =>
    refine xIHd_intro (E := ze_X5_stall) hsc rfl (cTb_ok rfl) hh (fun r h' G HG Pf hR m => ?_)
    have K := kOK_refl (W := W_X5_stallA) K
    unfold F_X5_stallA
    show G m _ (0, [(0, .inl (.ref q0))], [], h, 0, 0)
    refine k_steps HG 1 (zB_iff.mpr (?_ : G m _ (1, [(0, .inl (.ref q0))], [.inl (.ref q0)], h, 0, 0)))
    refine k_cVRHd HG (E' := ze_X5_fresh) (Or.inl ⟨rfl, rfl⟩) hsc rfl rfl rfl K rfl (fun hh => x_X5_freshA hsc K.1 hq_q0 (kN_of V_27 K hq_q0 rfl) hh) (fun y1 K1 Q1 => (?_ : G m _ (4, [(0, .inl (.ref q0))], [.inl (.ref y1.1)], y1.2, (0 + zEc ze_X5_fresh), (0 + zEs ze_X5_fresh))))
    refine k_steps HG 2 (zB_iff.mpr (?_ : G m _ (6, [(1, .inl (.ref y1.1)), (0, .inl (.ref q0))], [.inl (.ref q0)], y1.2, (0 + zEc ze_X5_fresh), (0 + zEs ze_X5_fresh))))
    refine k_cVIH HG (E' := ze_X5_readAll) (Or.inl ⟨rfl, rfl⟩) hsc rfl rfl rfl rfl rfl K1 rfl (fun hh => x_X5_readAll hsc K1.1 hq_q0 hh) (fun y2 K2 => (?_ : G m _ (9, [(1, .inl (.ref y1.1)), (0, .inl (.ref q0))], [.inl (.int y2.1)], y2.2, (0 + zEc ze_X5_fresh), (0 + zEs ze_X5_fresh))))
    refine k_steps HG 3 (zB_iff.mpr (?_ : G m _ (12, [(2, .inl (.int y2.1)), (1, .inl (.ref y1.1)), (0, .inl (.ref q0))], [.inl (.int (0 : Int32)), .inl (.ref q0)], y2.2, (0 + zEc ze_X5_fresh), (0 + zEs ze_X5_fresh))))
    refine k_putI HG rfl K2 hq_q0 rfl rfl rfl (fun h3 K3 => (?_ : G m _ (15, [(2, .inl (.int y2.1)), (1, .inl (.ref y1.1)), (0, .inl (.ref q0))], [], h3, (0 + zEc ze_X5_fresh), (0 + zEs ze_X5_fresh))))
    refine k_steps HG 2 (kb_ne (x := y2.1) (y := (0 : Int32)) ?_ ?_)
    · show G m _ (39, [(2, .inl (.int y2.1)), (1, .inl (.ref y1.1)), (0, .inl (.ref q0))], [], h3, (0 + zEc ze_X5_fresh), (0 + zEs ze_X5_fresh))
      refine k_steps HG 1 (zB_iff.mpr (?_ : G m _ (40, [(2, .inl (.int y2.1)), (1, .inl (.ref y1.1)), (0, .inl (.ref q0))], [.inl (.ref q0)], h3, (0 + zEc ze_X5_fresh), (0 + zEs ze_X5_fresh))))
      refine k_getI HG rfl K3 hq_q0 rfl (Nat.le_of_ble_eq_true rfl) rfl (?_ : G m _ (43, [(2, .inl (.int y2.1)), (1, .inl (.ref y1.1)), (0, .inl (.ref q0))], [.inl (.int (hv h3 q0 34))], h3, (0 + zEc ze_X5_fresh), (0 + zEs ze_X5_fresh)))
      exact k_reti HG rfl rfl (fun e1 e2 => hR _ _ e1 e2 K3 trivial)
    · show G m _ (19, [(2, .inl (.int y2.1)), (1, .inl (.ref y1.1)), (0, .inl (.ref q0))], [], h3, (0 + zEc ze_X5_fresh), (0 + zEs ze_X5_fresh))
      refine k_steps HG 2 (zB_iff.mpr (?_ : G m _ (21, [(2, .inl (.int y2.1)), (1, .inl (.ref y1.1)), (0, .inl (.ref q0))], [.inl (.ref y1.1), .inl (.ref q0)], h3, (0 + zEc ze_X5_fresh), (0 + zEs ze_X5_fresh))))
      refine k_cVH HG (E' := ze_X5_takeFrom) (Or.inl ⟨rfl, rfl⟩) hsc rfl rfl rfl rfl rfl K3 rfl (fun hh => x_X5_takeFrom_56 hsc K3.1 hq_q0 Q1 hh) (fun h4 K4 => (?_ : G m _ (24, [(2, .inl (.int y2.1)), (1, .inl (.ref y1.1)), (0, .inl (.ref q0))], [], h4, (0 + zEc ze_X5_fresh), (0 + zEs ze_X5_fresh))))
      refine k_steps HG 2 (zB_iff.mpr (?_ : G m _ (27, [(2, .inl (.int y2.1)), (1, .inl (.ref y1.1)), (0, .inl (.ref q0))], [.inl (.int (-2 : Int32)), .inl (.ref q0)], h4, (0 + zEc ze_X5_fresh), (0 + zEs ze_X5_fresh))))
      refine k_cVIH HG (E' := ze_X5_refuse) (Or.inl ⟨rfl, rfl⟩) hsc rfl rfl rfl rfl rfl K4 rfl (fun hh => x_X5_refuse hsc K4.1 hq_q0 hh) (fun y5 K5 => (?_ : G m _ (30, [(2, .inl (.int y2.1)), (1, .inl (.ref y1.1)), (0, .inl (.ref q0))], [.inl (.int y5.1)], y5.2, (0 + zEc ze_X5_fresh), (0 + zEs ze_X5_fresh))))
      refine k_steps HG 3 (zB_iff.mpr (?_ : G m _ (34, [(2, .inl (.int y2.1)), (1, .inl (.ref y1.1)), (0, .inl (.ref q0))], [.inl (.ref q0), .inl (.int (-20 : Int32))], y5.2, (0 + zEc ze_X5_fresh), (0 + zEs ze_X5_fresh))))
      refine k_getI HG rfl K5 hq_q0 rfl (Nat.le_of_ble_eq_true rfl) rfl (?_ : G m _ (37, [(2, .inl (.int y2.1)), (1, .inl (.ref y1.1)), (0, .inl (.ref q0))], [.inl (.int (hv y5.2 q0 32)), .inl (.int (-20 : Int32))], y5.2, (0 + zEc ze_X5_fresh), (0 + zEs ze_X5_fresh)))
      refine k_steps HG 1 (zB_iff.mpr (?_ : G m _ (38, [(2, .inl (.int y2.1)), (1, .inl (.ref y1.1)), (0, .inl (.ref q0))], [.inl (.int ((-20 : Int32) - (hv y5.2 q0 32)))], y5.2, (0 + zEc ze_X5_fresh), (0 + zEs ze_X5_fresh))))
      exact k_reti HG rfl rfl (fun e1 e2 => hR _ _ e1 e2 K5 trivial)
def W_X5_judgeA : List (Nat × Nat) := [(5, 40), (6, 9), (6, 10), (6, 11), (6, 12), (6, 13), (6, 14), (6, 15), (6, 17), (6, 23), (30, 1000), (31, 1000), (32, 1000), (33, 1000), (34, 1000), (35, 1000), (36, 1000), (37, 1000), (39, 1000)]
noncomputable def F_X5_judgeA (h : zH) (q0 : Nat) (a1 : Int32) (a2 : Int32) : Int32 × zH := (letf (F_X5_noBook h q0 a1 a2) (fun y1 => (if y1.1 = (0 : Int32) then (letf (F_X5_wrongInA y1.2 q0 (hr y1.2 (hr y1.2 q0 3) a1.toNatClampNeg) a2) (fun y4 => (y4.1, y4.2))) else (y1.1, y1.2))))
theorem x_X5_judgeA {scr : List zV} {D : Nat} {T : List Nat} {h : zH} {q0 : Nat} {a1 : Int32} {a2 : Int32} (hsc : cT scr) (K : hOK kty T h) (hq_q0 : T[q0]? = some 5) (V_27 : kN T h q0 27 6) (hh : cH h) : xIHd scr W_X5_judgeA T T (fun _ => True) D 194 [.inl (.ref q0), .inl (.int a1), .inl (.int a2)] h (F_X5_judgeA h q0 a1 a2) := by
  cases D with
  | zero => exact fun _ _ hx => absurd hx (fun q => xD_zero q)
  | succ D =>
    refine xIHd_intro (E := ze_X5_judge) hsc rfl (cTb_ok rfl) hh (fun r h' G HG Pf hR m => ?_)
    have K := kOK_refl (W := W_X5_judgeA) K
    unfold F_X5_judgeA
    show G m _ (0, [(0, .inl (.ref q0)), (1, .inl (.int a1)), (2, .inl (.int a2))], [], h, 0, 0)
    refine k_steps HG 3 (zB_iff.mpr (?_ : G m _ (3, [(0, .inl (.ref q0)), (1, .inl (.int a1)), (2, .inl (.int a2))], [.inl (.int a2), .inl (.int a1), .inl (.ref q0)], h, 0, 0)))
    refine k_cVIH HG (E' := ze_X5_noBook) (Or.inl ⟨rfl, rfl⟩) hsc rfl rfl rfl rfl rfl K rfl (fun hh => x_X5_noBook hsc K.1 hq_q0 hh) (fun y1 K1 => (?_ : G m _ (6, [(0, .inl (.ref q0)), (1, .inl (.int a1)), (2, .inl (.int a2))], [.inl (.int y1.1)], y1.2, 0, 0)))
    refine k_steps HG 3 (kb_eq (x := y1.1) (y := (0 : Int32)) ?_ ?_)
    · show G m _ (15, [(3, .inl (.int y1.1)), (0, .inl (.ref q0)), (1, .inl (.int a1)), (2, .inl (.int a2))], [], y1.2, 0, 0)
      refine k_steps HG 2 (zB_iff.mpr (?_ : G m _ (17, [(3, .inl (.int y1.1)), (0, .inl (.ref q0)), (1, .inl (.int a1)), (2, .inl (.int a2))], [.inl (.ref q0), .inl (.ref q0)], y1.2, 0, 0)))
      refine k_getR HG rfl K1 hq_q0 rfl (Nat.le_of_ble_eq_true rfl) rfl rfl (fun t2 => (?_ : G m _ (20, [(3, .inl (.int y1.1)), (0, .inl (.ref q0)), (1, .inl (.int a1)), (2, .inl (.int a2))], [.inl (.ref (hr y1.2 q0 3)), .inl (.ref q0)], y1.2, 0, 0)))
      refine k_steps HG 1 (zB_iff.mpr (?_ : G m _ (21, [(3, .inl (.int y1.1)), (0, .inl (.ref q0)), (1, .inl (.int a1)), (2, .inl (.int a2))], [.inl (.int a1), .inl (.ref (hr y1.2 q0 3)), .inl (.ref q0)], y1.2, 0, 0)))
      refine k_aald HG rfl K1 t2 (fun _ => ⟨rfl, rfl⟩) (fun t3 => (?_ : G m _ (22, [(3, .inl (.int y1.1)), (0, .inl (.ref q0)), (1, .inl (.int a1)), (2, .inl (.int a2))], [.inl (.ref (hr y1.2 (hr y1.2 q0 3) a1.toNatClampNeg)), .inl (.ref q0)], y1.2, 0, 0)))
      refine k_steps HG 1 (zB_iff.mpr (?_ : G m _ (23, [(3, .inl (.int y1.1)), (0, .inl (.ref q0)), (1, .inl (.int a1)), (2, .inl (.int a2))], [.inl (.int a2), .inl (.ref (hr y1.2 (hr y1.2 q0 3) a1.toNatClampNeg)), .inl (.ref q0)], y1.2, 0, 0)))
      refine k_cVIHd HG (E' := ze_X5_wrongIn) (Or.inl ⟨rfl, rfl⟩) hsc rfl rfl rfl K1 rfl (fun hh => x_X5_wrongInA hsc K1.1 hq_q0 t3 (kN_of V_27 K1 hq_q0 rfl) hh) (fun y4 K4 Q4 => (?_ : G m _ (26, [(3, .inl (.int y1.1)), (0, .inl (.ref q0)), (1, .inl (.int a1)), (2, .inl (.int a2))], [.inl (.int y4.1)], y4.2, (0 + zEc ze_X5_wrongIn), (0 + zEs ze_X5_wrongIn))))
      exact k_reti HG rfl rfl (fun e1 e2 => hR _ _ e1 e2 K4 trivial)
    · show G m _ (11, [(3, .inl (.int y1.1)), (0, .inl (.ref q0)), (1, .inl (.int a1)), (2, .inl (.int a2))], [], y1.2, 0, 0)
      refine k_steps HG 2 (zB_iff.mpr (?_ : G m _ (26, [(3, .inl (.int y1.1)), (0, .inl (.ref q0)), (1, .inl (.int a1)), (2, .inl (.int a2))], [.inl (.int y1.1)], y1.2, 0, 0)))
      exact k_reti HG rfl rfl (fun e1 e2 => hR _ _ e1 e2 K1 trivial)
def W_X5_wonA : List (Nat × Nat) := [(5, 40), (6, 9), (6, 10), (6, 11), (6, 12), (6, 13), (6, 14), (6, 15), (6, 17), (6, 23), (30, 1000), (31, 1000), (32, 1000), (33, 1000), (34, 1000), (35, 1000), (36, 1000), (37, 1000), (39, 1000)]
noncomputable def F_X5_wonA (h : zH) (q0 : Nat) (a1 : Int32) (a2 : Int32) : Int32 × zH := (letf (F_X5_noBook h q0 a1 a2) (fun y1 => (if y1.1 = (0 : Int32) then (letf (F_X5_wrongInA y1.2 q0 (hr y1.2 (hr y1.2 q0 3) a1.toNatClampNeg) a2) (fun y4 => (if y4.1 = (-1 : Int32) then ((hv y4.2 q0 40), y4.2) else (letf (F_X5_refuse y4.2 q0 (-5 : Int32)) (fun y5 => (y5.1, y5.2)))))) else (y1.1, y1.2))))
theorem x_X5_wonA {scr : List zV} {D : Nat} {T : List Nat} {h : zH} {q0 : Nat} {a1 : Int32} {a2 : Int32} (hsc : cT scr) (K : hOK kty T h) (hq_q0 : T[q0]? = some 5) (V_27 : kN T h q0 27 6) (hh : cH h) : xIHd scr W_X5_wonA T T (fun _ => True) D 245 [.inl (.ref q0), .inl (.int a1), .inl (.int a2)] h (F_X5_wonA h q0 a1 a2) := by
  cases D with
  | zero => exact fun _ _ hx => absurd hx (fun q => xD_zero q)
  | succ D =>
    refine xIHd_intro (E := ze_X5_won) hsc rfl (cTb_ok rfl) hh (fun r h' G HG Pf hR m => ?_)
    have K := kOK_refl (W := W_X5_wonA) K
    unfold F_X5_wonA
    show G m _ (0, [(0, .inl (.ref q0)), (1, .inl (.int a1)), (2, .inl (.int a2))], [], h, 0, 0)
    refine k_steps HG 3 (zB_iff.mpr (?_ : G m _ (3, [(0, .inl (.ref q0)), (1, .inl (.int a1)), (2, .inl (.int a2))], [.inl (.int a2), .inl (.int a1), .inl (.ref q0)], h, 0, 0)))
    refine k_cVIH HG (E' := ze_X5_noBook) (Or.inl ⟨rfl, rfl⟩) hsc rfl rfl rfl rfl rfl K rfl (fun hh => x_X5_noBook hsc K.1 hq_q0 hh) (fun y1 K1 => (?_ : G m _ (6, [(0, .inl (.ref q0)), (1, .inl (.int a1)), (2, .inl (.int a2))], [.inl (.int y1.1)], y1.2, 0, 0)))
    refine k_steps HG 3 (kb_eq (x := y1.1) (y := (0 : Int32)) ?_ ?_)
    · show G m _ (13, [(3, .inl (.int y1.1)), (0, .inl (.ref q0)), (1, .inl (.int a1)), (2, .inl (.int a2))], [], y1.2, 0, 0)
      refine k_steps HG 2 (zB_iff.mpr (?_ : G m _ (15, [(3, .inl (.int y1.1)), (0, .inl (.ref q0)), (1, .inl (.int a1)), (2, .inl (.int a2))], [.inl (.ref q0), .inl (.ref q0)], y1.2, 0, 0)))
      refine k_getR HG rfl K1 hq_q0 rfl (Nat.le_of_ble_eq_true rfl) rfl rfl (fun t2 => (?_ : G m _ (18, [(3, .inl (.int y1.1)), (0, .inl (.ref q0)), (1, .inl (.int a1)), (2, .inl (.int a2))], [.inl (.ref (hr y1.2 q0 3)), .inl (.ref q0)], y1.2, 0, 0)))
      refine k_steps HG 1 (zB_iff.mpr (?_ : G m _ (19, [(3, .inl (.int y1.1)), (0, .inl (.ref q0)), (1, .inl (.int a1)), (2, .inl (.int a2))], [.inl (.int a1), .inl (.ref (hr y1.2 q0 3)), .inl (.ref q0)], y1.2, 0, 0)))
      refine k_aald HG rfl K1 t2 (fun _ => ⟨rfl, rfl⟩) (fun t3 => (?_ : G m _ (20, [(3, .inl (.int y1.1)), (0, .inl (.ref q0)), (1, .inl (.int a1)), (2, .inl (.int a2))], [.inl (.ref (hr y1.2 (hr y1.2 q0 3) a1.toNatClampNeg)), .inl (.ref q0)], y1.2, 0, 0)))
      refine k_steps HG 1 (zB_iff.mpr (?_ : G m _ (21, [(3, .inl (.int y1.1)), (0, .inl (.ref q0)), (1, .inl (.int a1)), (2, .inl (.int a2))], [.inl (.int a2), .inl (.ref (hr y1.2 (hr y1.2 q0 3) a1.toNatClampNeg)), .inl (.ref q0)], y1.2, 0, 0)))
      refine k_cVIHd HG (E' := ze_X5_wrongIn) (Or.inl ⟨rfl, rfl⟩) hsc rfl rfl rfl K1 rfl (fun hh => x_X5_wrongInA hsc K1.1 hq_q0 t3 (kN_of V_27 K1 hq_q0 rfl) hh) (fun y4 K4 Q4 => (?_ : G m _ (24, [(3, .inl (.int y1.1)), (0, .inl (.ref q0)), (1, .inl (.int a1)), (2, .inl (.int a2))], [.inl (.int y4.1)], y4.2, (0 + zEc ze_X5_wrongIn), (0 + zEs ze_X5_wrongIn))))
      refine k_steps HG 2 (kb_eq (x := y4.1) (y := (-1 : Int32)) ?_ ?_)
      · show G m _ (37, [(3, .inl (.int y1.1)), (0, .inl (.ref q0)), (1, .inl (.int a1)), (2, .inl (.int a2))], [], y4.2, (0 + zEc ze_X5_wrongIn), (0 + zEs ze_X5_wrongIn))
        refine k_steps HG 1 (zB_iff.mpr (?_ : G m _ (38, [(3, .inl (.int y1.1)), (0, .inl (.ref q0)), (1, .inl (.int a1)), (2, .inl (.int a2))], [.inl (.ref q0)], y4.2, (0 + zEc ze_X5_wrongIn), (0 + zEs ze_X5_wrongIn))))
        refine k_getI HG rfl K4 hq_q0 rfl (Nat.le_of_ble_eq_true rfl) rfl (?_ : G m _ (41, [(3, .inl (.int y1.1)), (0, .inl (.ref q0)), (1, .inl (.int a1)), (2, .inl (.int a2))], [.inl (.int (hv y4.2 q0 40))], y4.2, (0 + zEc ze_X5_wrongIn), (0 + zEs ze_X5_wrongIn)))
        exact k_reti HG rfl rfl (fun e1 e2 => hR _ _ e1 e2 K4 trivial)
      · show G m _ (28, [(3, .inl (.int y1.1)), (0, .inl (.ref q0)), (1, .inl (.int a1)), (2, .inl (.int a2))], [], y4.2, (0 + zEc ze_X5_wrongIn), (0 + zEs ze_X5_wrongIn))
        refine k_steps HG 2 (zB_iff.mpr (?_ : G m _ (31, [(3, .inl (.int y1.1)), (0, .inl (.ref q0)), (1, .inl (.int a1)), (2, .inl (.int a2))], [.inl (.int (-5 : Int32)), .inl (.ref q0)], y4.2, (0 + zEc ze_X5_wrongIn), (0 + zEs ze_X5_wrongIn))))
        refine k_cVIH HG (E' := ze_X5_refuse) (Or.inl ⟨rfl, rfl⟩) hsc rfl rfl rfl rfl rfl K4 rfl (fun hh => x_X5_refuse hsc K4.1 hq_q0 hh) (fun y5 K5 => (?_ : G m _ (34, [(3, .inl (.int y1.1)), (0, .inl (.ref q0)), (1, .inl (.int a1)), (2, .inl (.int a2))], [.inl (.int y5.1)], y5.2, (0 + zEc ze_X5_wrongIn), (0 + zEs ze_X5_wrongIn))))
        refine k_steps HG 1 (zB_iff.mpr (?_ : G m _ (41, [(3, .inl (.int y1.1)), (0, .inl (.ref q0)), (1, .inl (.int a1)), (2, .inl (.int a2))], [.inl (.int y5.1)], y5.2, (0 + zEc ze_X5_wrongIn), (0 + zEs ze_X5_wrongIn))))
        exact k_reti HG rfl rfl (fun e1 e2 => hR _ _ e1 e2 K5 trivial)
    · show G m _ (11, [(3, .inl (.int y1.1)), (0, .inl (.ref q0)), (1, .inl (.int a1)), (2, .inl (.int a2))], [], y1.2, 0, 0)
      refine k_steps HG 1 (zB_iff.mpr (?_ : G m _ (12, [(3, .inl (.int y1.1)), (0, .inl (.ref q0)), (1, .inl (.int a1)), (2, .inl (.int a2))], [.inl (.int y1.1)], y1.2, 0, 0)))
      exact k_reti HG rfl rfl (fun e1 e2 => hR _ _ e1 e2 K1 trivial)
def W_X5_bookedA : List (Nat × Nat) := [(5, 13), (5, 14), (5, 40), (6, 9), (6, 10), (6, 11), (6, 12), (6, 13), (6, 14), (6, 15), (6, 17), (6, 23), (30, 1000), (31, 1000), (32, 1000), (33, 1000), (34, 1000), (35, 1000), (36, 1000), (37, 1000), (39, 1000)]
noncomputable def B_X5_bookedA_95 (c0 : Nat) (c1 : Int32) (c2 : Int32) (c3 : Int32) (c4 : Int32) (s : (Int32 × zH)) : (Int32 × zH) ⊕ (Int32 × zH) := (if s.1 < c2 then (letf (F_X5_comesOut s.2 c0 (Int64.toInt32 (hJ s.2 (hr s.2 (hr s.2 c0 3) c1.toNatClampNeg) s.1.toNatClampNeg)) c3) (fun y1006 => (Sum.inl ((s.1 + (1 : Int32)), y1006.2)))) else (letf (hput s.2 (hr s.2 c0 24) c3.toNatClampNeg (.inl (.int ((hv s.2 (hr s.2 c0 24) c3.toNatClampNeg) - (c2 * (hv s.2 c0 11)))))) (fun h1002 => (letf (hput h1002 c0 14 (.inl (.int ((hv h1002 c0 14) + (c2 * (hv h1002 c0 11)))))) (fun h1003 => (Sum.inr ((hv h1003 c0 40), h1003)))))))
noncomputable def F_X5_bookedA (h : zH) (q0 : Nat) (a1 : Int32) (a2 : Int32) (a3 : Int32) : Int32 × zH := (letf (F_X5_in (Int32.toInt64 a1) (0 : Int64) (7 : Int64)) (fun y1 => (if y1 = (0 : Int32) then (letf (F_X5_refuse h q0 (-2 : Int32)) (fun y2 => (y2.1, y2.2))) else (letf (F_X5_in (Int32.toInt64 a2) (0 : Int64) (40 : Int64)) (fun y3 => (if y3 = (0 : Int32) then (letf (F_X5_refuse h q0 (-2 : Int32)) (fun y4 => (y4.1, y4.2))) else (letf (F_X5_isBuyer h q0 a3) (fun y5 => (if y5 = (0 : Int32) then (letf (F_X5_refuse h q0 (-2 : Int32)) (fun y20 => (y20.1, y20.2))) else (letf (F_X5_noBook h q0 a1 a2) (fun y6 => (if y6.1 = (0 : Int32) then (letf (F_X5_wrongInA y6.2 q0 (hr y6.2 (hr y6.2 q0 3) a1.toNatClampNeg) a2) (fun y9 => (if y9.1 = (-1 : Int32) then (if (hv y9.2 (hr y9.2 q0 24) a3.toNatClampNeg) < (a2 * (hv y9.2 q0 11)) then (letf (F_X5_refuse y9.2 q0 (-5 : Int32)) (fun y19 => (y19.1, y19.2))) else (fx (B_X5_bookedA_95 q0 a1 a2 a3 y6.1) (0, []) ((0 : Int32), y9.2))) else (letf (F_X5_refuse y9.2 q0 (-5 : Int32)) (fun y10 => (y10.1, y10.2)))))) else (y6.1, y6.2)))))))))))))
theorem x_X5_bookedA {scr : List zV} {D : Nat} {T : List Nat} {h : zH} {q0 : Nat} {a1 : Int32} {a2 : Int32} {a3 : Int32} (hsc : cT scr) (K : hOK kty T h) (hq_q0 : T[q0]? = some 5) (V_27 : kN T h q0 27 6) (hh : cH h) : xIHd scr W_X5_bookedA T T (fun _ => True) D 162 [.inl (.ref q0), .inl (.int a1), .inl (.int a2), .inl (.int a3)] h (F_X5_bookedA h q0 a1 a2 a3) := by
  cases D with
  | zero => exact fun _ _ hx => absurd hx (fun q => xD_zero q)
  | succ D =>
    refine xIHd_intro (E := ze_X5_booked) hsc rfl (cTb_ok rfl) hh (fun r h' G HG Pf hR m => ?_)
    have K := kOK_refl (W := W_X5_bookedA) K
    unfold F_X5_bookedA
    show G m _ (0, [(0, .inl (.ref q0)), (1, .inl (.int a1)), (2, .inl (.int a2)), (3, .inl (.int a3))], [], h, 0, 0)
    refine k_steps HG 4 (zB_iff.mpr (?_ : G m _ (6, [(0, .inl (.ref q0)), (1, .inl (.int a1)), (2, .inl (.int a2)), (3, .inl (.int a3))], [.inl (.long (7 : Int64)), .inl (.long (0 : Int64)), .inl (.long (Int32.toInt64 a1))], h, 0, 0)))
    refine k_cSI HG (E' := ze_X5_in) (Or.inl rfl) hsc rfl rfl rfl rfl (fun hh => x_X5_in hsc hh) (fun y1 => (?_ : G m _ (9, [(0, .inl (.ref q0)), (1, .inl (.int a1)), (2, .inl (.int a2)), (3, .inl (.int a3))], [.inl (.int y1)], h, 0, 0)))
    refine k_steps HG 1 (kb_eq (x := y1) (y := (0 : Int32)) ?_ ?_)
    · show G m _ (32, [(0, .inl (.ref q0)), (1, .inl (.int a1)), (2, .inl (.int a2)), (3, .inl (.int a3))], [], h, 0, 0)
      refine k_steps HG 2 (zB_iff.mpr (?_ : G m _ (35, [(0, .inl (.ref q0)), (1, .inl (.int a1)), (2, .inl (.int a2)), (3, .inl (.int a3))], [.inl (.int (-2 : Int32)), .inl (.ref q0)], h, 0, 0)))
      refine k_cVIH HG (E' := ze_X5_refuse) (Or.inl ⟨rfl, rfl⟩) hsc rfl rfl rfl rfl rfl K rfl (fun hh => x_X5_refuse hsc K.1 hq_q0 hh) (fun y2 K2 => (?_ : G m _ (38, [(0, .inl (.ref q0)), (1, .inl (.int a1)), (2, .inl (.int a2)), (3, .inl (.int a3))], [.inl (.int y2.1)], y2.2, 0, 0)))
      exact k_reti HG rfl rfl (fun e1 e2 => hR _ _ e1 e2 K2 trivial)
    · show G m _ (12, [(0, .inl (.ref q0)), (1, .inl (.int a1)), (2, .inl (.int a2)), (3, .inl (.int a3))], [], h, 0, 0)
      refine k_steps HG 4 (zB_iff.mpr (?_ : G m _ (18, [(0, .inl (.ref q0)), (1, .inl (.int a1)), (2, .inl (.int a2)), (3, .inl (.int a3))], [.inl (.long (40 : Int64)), .inl (.long (0 : Int64)), .inl (.long (Int32.toInt64 a2))], h, 0, 0)))
      refine k_cSI HG (E' := ze_X5_in) (Or.inl rfl) hsc rfl rfl rfl rfl (fun hh => x_X5_in hsc hh) (fun y3 => (?_ : G m _ (21, [(0, .inl (.ref q0)), (1, .inl (.int a1)), (2, .inl (.int a2)), (3, .inl (.int a3))], [.inl (.int y3)], h, 0, 0)))
      refine k_steps HG 1 (kb_eq (x := y3) (y := (0 : Int32)) ?_ ?_)
      · show G m _ (32, [(0, .inl (.ref q0)), (1, .inl (.int a1)), (2, .inl (.int a2)), (3, .inl (.int a3))], [], h, 0, 0)
        refine k_steps HG 2 (zB_iff.mpr (?_ : G m _ (35, [(0, .inl (.ref q0)), (1, .inl (.int a1)), (2, .inl (.int a2)), (3, .inl (.int a3))], [.inl (.int (-2 : Int32)), .inl (.ref q0)], h, 0, 0)))
        refine k_cVIH HG (E' := ze_X5_refuse) (Or.inl ⟨rfl, rfl⟩) hsc rfl rfl rfl rfl rfl K rfl (fun hh => x_X5_refuse hsc K.1 hq_q0 hh) (fun y4 K4 => (?_ : G m _ (38, [(0, .inl (.ref q0)), (1, .inl (.int a1)), (2, .inl (.int a2)), (3, .inl (.int a3))], [.inl (.int y4.1)], y4.2, 0, 0)))
        exact k_reti HG rfl rfl (fun e1 e2 => hR _ _ e1 e2 K4 trivial)
      · show G m _ (24, [(0, .inl (.ref q0)), (1, .inl (.int a1)), (2, .inl (.int a2)), (3, .inl (.int a3))], [], h, 0, 0)
        refine k_steps HG 2 (zB_iff.mpr (?_ : G m _ (26, [(0, .inl (.ref q0)), (1, .inl (.int a1)), (2, .inl (.int a2)), (3, .inl (.int a3))], [.inl (.int a3), .inl (.ref q0)], h, 0, 0)))
        refine k_cVI HG (E' := ze_X5_isBuyer) (Or.inl ⟨rfl, rfl⟩) hsc rfl rfl rfl rfl rfl (fun hh => x_X5_isBuyer hsc K.1 hq_q0 hh) (fun y5 => (?_ : G m _ (29, [(0, .inl (.ref q0)), (1, .inl (.int a1)), (2, .inl (.int a2)), (3, .inl (.int a3))], [.inl (.int y5)], h, 0, 0)))
        refine k_steps HG 1 (kb_ne (x := y5) (y := (0 : Int32)) ?_ ?_)
        · show G m _ (39, [(0, .inl (.ref q0)), (1, .inl (.int a1)), (2, .inl (.int a2)), (3, .inl (.int a3))], [], h, 0, 0)
          refine k_steps HG 3 (zB_iff.mpr (?_ : G m _ (42, [(0, .inl (.ref q0)), (1, .inl (.int a1)), (2, .inl (.int a2)), (3, .inl (.int a3))], [.inl (.int a2), .inl (.int a1), .inl (.ref q0)], h, 0, 0)))
          refine k_cVIH HG (E' := ze_X5_noBook) (Or.inl ⟨rfl, rfl⟩) hsc rfl rfl rfl rfl rfl K rfl (fun hh => x_X5_noBook hsc K.1 hq_q0 hh) (fun y6 K6 => (?_ : G m _ (45, [(0, .inl (.ref q0)), (1, .inl (.int a1)), (2, .inl (.int a2)), (3, .inl (.int a3))], [.inl (.int y6.1)], y6.2, 0, 0)))
          refine k_steps HG 3 (kb_eq (x := y6.1) (y := (0 : Int32)) ?_ ?_)
          · show G m _ (55, [(4, .inl (.int y6.1)), (0, .inl (.ref q0)), (1, .inl (.int a1)), (2, .inl (.int a2)), (3, .inl (.int a3))], [], y6.2, 0, 0)
            refine k_steps HG 2 (zB_iff.mpr (?_ : G m _ (57, [(4, .inl (.int y6.1)), (0, .inl (.ref q0)), (1, .inl (.int a1)), (2, .inl (.int a2)), (3, .inl (.int a3))], [.inl (.ref q0), .inl (.ref q0)], y6.2, 0, 0)))
            refine k_getR HG rfl K6 hq_q0 rfl (Nat.le_of_ble_eq_true rfl) rfl rfl (fun t7 => (?_ : G m _ (60, [(4, .inl (.int y6.1)), (0, .inl (.ref q0)), (1, .inl (.int a1)), (2, .inl (.int a2)), (3, .inl (.int a3))], [.inl (.ref (hr y6.2 q0 3)), .inl (.ref q0)], y6.2, 0, 0)))
            refine k_steps HG 1 (zB_iff.mpr (?_ : G m _ (61, [(4, .inl (.int y6.1)), (0, .inl (.ref q0)), (1, .inl (.int a1)), (2, .inl (.int a2)), (3, .inl (.int a3))], [.inl (.int a1), .inl (.ref (hr y6.2 q0 3)), .inl (.ref q0)], y6.2, 0, 0)))
            refine k_aald HG rfl K6 t7 (fun _ => ⟨rfl, rfl⟩) (fun t8 => (?_ : G m _ (62, [(4, .inl (.int y6.1)), (0, .inl (.ref q0)), (1, .inl (.int a1)), (2, .inl (.int a2)), (3, .inl (.int a3))], [.inl (.ref (hr y6.2 (hr y6.2 q0 3) a1.toNatClampNeg)), .inl (.ref q0)], y6.2, 0, 0)))
            refine k_steps HG 1 (zB_iff.mpr (?_ : G m _ (63, [(4, .inl (.int y6.1)), (0, .inl (.ref q0)), (1, .inl (.int a1)), (2, .inl (.int a2)), (3, .inl (.int a3))], [.inl (.int a2), .inl (.ref (hr y6.2 (hr y6.2 q0 3) a1.toNatClampNeg)), .inl (.ref q0)], y6.2, 0, 0)))
            refine k_cVIHd HG (E' := ze_X5_wrongIn) (Or.inl ⟨rfl, rfl⟩) hsc rfl rfl rfl K6 rfl (fun hh => x_X5_wrongInA hsc K6.1 hq_q0 t8 (kN_of V_27 K6 hq_q0 rfl) hh) (fun y9 K9 Q9 => (?_ : G m _ (66, [(4, .inl (.int y6.1)), (0, .inl (.ref q0)), (1, .inl (.int a1)), (2, .inl (.int a2)), (3, .inl (.int a3))], [.inl (.int y9.1)], y9.2, (0 + zEc ze_X5_wrongIn), (0 + zEs ze_X5_wrongIn))))
            refine k_steps HG 2 (kb_ne (x := y9.1) (y := (-1 : Int32)) ?_ ?_)
            · show G m _ (85, [(4, .inl (.int y6.1)), (0, .inl (.ref q0)), (1, .inl (.int a1)), (2, .inl (.int a2)), (3, .inl (.int a3))], [], y9.2, (0 + zEc ze_X5_wrongIn), (0 + zEs ze_X5_wrongIn))
              refine k_steps HG 2 (zB_iff.mpr (?_ : G m _ (88, [(4, .inl (.int y6.1)), (0, .inl (.ref q0)), (1, .inl (.int a1)), (2, .inl (.int a2)), (3, .inl (.int a3))], [.inl (.int (-5 : Int32)), .inl (.ref q0)], y9.2, (0 + zEc ze_X5_wrongIn), (0 + zEs ze_X5_wrongIn))))
              refine k_cVIH HG (E' := ze_X5_refuse) (Or.inl ⟨rfl, rfl⟩) hsc rfl rfl rfl rfl rfl K9 rfl (fun hh => x_X5_refuse hsc K9.1 hq_q0 hh) (fun y10 K10 => (?_ : G m _ (91, [(4, .inl (.int y6.1)), (0, .inl (.ref q0)), (1, .inl (.int a1)), (2, .inl (.int a2)), (3, .inl (.int a3))], [.inl (.int y10.1)], y10.2, (0 + zEc ze_X5_wrongIn), (0 + zEs ze_X5_wrongIn))))
              exact k_reti HG rfl rfl (fun e1 e2 => hR _ _ e1 e2 K10 trivial)
            · show G m _ (70, [(4, .inl (.int y6.1)), (0, .inl (.ref q0)), (1, .inl (.int a1)), (2, .inl (.int a2)), (3, .inl (.int a3))], [], y9.2, (0 + zEc ze_X5_wrongIn), (0 + zEs ze_X5_wrongIn))
              refine k_steps HG 1 (zB_iff.mpr (?_ : G m _ (71, [(4, .inl (.int y6.1)), (0, .inl (.ref q0)), (1, .inl (.int a1)), (2, .inl (.int a2)), (3, .inl (.int a3))], [.inl (.ref q0)], y9.2, (0 + zEc ze_X5_wrongIn), (0 + zEs ze_X5_wrongIn))))
              refine k_getR HG rfl K9 hq_q0 rfl (Nat.le_of_ble_eq_true rfl) rfl rfl (fun t11 => (?_ : G m _ (74, [(4, .inl (.int y6.1)), (0, .inl (.ref q0)), (1, .inl (.int a1)), (2, .inl (.int a2)), (3, .inl (.int a3))], [.inl (.ref (hr y9.2 q0 24))], y9.2, (0 + zEc ze_X5_wrongIn), (0 + zEs ze_X5_wrongIn))))
              refine k_steps HG 1 (zB_iff.mpr (?_ : G m _ (75, [(4, .inl (.int y6.1)), (0, .inl (.ref q0)), (1, .inl (.int a1)), (2, .inl (.int a2)), (3, .inl (.int a3))], [.inl (.int a3), .inl (.ref (hr y9.2 q0 24))], y9.2, (0 + zEc ze_X5_wrongIn), (0 + zEs ze_X5_wrongIn))))
              refine k_iald HG rfl K9 t11 rfl (fun _ => rfl) (?_ : G m _ (76, [(4, .inl (.int y6.1)), (0, .inl (.ref q0)), (1, .inl (.int a1)), (2, .inl (.int a2)), (3, .inl (.int a3))], [.inl (.int (hv y9.2 (hr y9.2 q0 24) a3.toNatClampNeg))], y9.2, (0 + zEc ze_X5_wrongIn), (0 + zEs ze_X5_wrongIn)))
              refine k_steps HG 2 (zB_iff.mpr (?_ : G m _ (78, [(4, .inl (.int y6.1)), (0, .inl (.ref q0)), (1, .inl (.int a1)), (2, .inl (.int a2)), (3, .inl (.int a3))], [.inl (.ref q0), .inl (.int a2), .inl (.int (hv y9.2 (hr y9.2 q0 24) a3.toNatClampNeg))], y9.2, (0 + zEc ze_X5_wrongIn), (0 + zEs ze_X5_wrongIn))))
              refine k_getI HG rfl K9 hq_q0 rfl (Nat.le_of_ble_eq_true rfl) rfl (?_ : G m _ (81, [(4, .inl (.int y6.1)), (0, .inl (.ref q0)), (1, .inl (.int a1)), (2, .inl (.int a2)), (3, .inl (.int a3))], [.inl (.int (hv y9.2 q0 11)), .inl (.int a2), .inl (.int (hv y9.2 (hr y9.2 q0 24) a3.toNatClampNeg))], y9.2, (0 + zEc ze_X5_wrongIn), (0 + zEs ze_X5_wrongIn)))
              refine k_steps HG 2 (kb_ge (x := (hv y9.2 (hr y9.2 q0 24) a3.toNatClampNeg)) (y := (a2 * (hv y9.2 q0 11))) ?_ ?_)
              · show G m _ (92, [(4, .inl (.int y6.1)), (0, .inl (.ref q0)), (1, .inl (.int a1)), (2, .inl (.int a2)), (3, .inl (.int a3))], [], y9.2, (0 + zEc ze_X5_wrongIn), (0 + zEs ze_X5_wrongIn))
                refine k_steps HG 2 (zB_iff.mpr (?_ : G m _ (95, [(5, .inl (.int (0 : Int32))), (4, .inl (.int y6.1)), (0, .inl (.ref q0)), (1, .inl (.int a1)), (2, .inl (.int a2)), (3, .inl (.int a3))], [], y9.2, (0 + zEc ze_X5_wrongIn), (0 + zEs ze_X5_wrongIn))))
                have lp12 : ∀ m12, m12 ≤ m → ∀ (nc12 : Nat) (ns12 : Nat) (v12_5 : Int32) (h12 : zH), kOK W_X5_bookedA T T h h12 → G m12 (Pf (fx (B_X5_bookedA_95 q0 a1 a2 a3 y6.1) (0, []) (v12_5, h12))) (95, [(0, .inl (.ref q0)), (1, .inl (.int a1)), (2, .inl (.int a2)), (3, .inl (.int a3)), (4, .inl (.int y6.1)), (5, .inl (.int v12_5))], [], h12, nc12, ns12) := by
                  intro m12
                  induction m12 with
                  | zero =>
                    intros
                    exact k_zero HG
                  | succ m12 ih12 =>
                    intro le12 nc12 ns12 v12_5 h12 K12
                    have le12 := Nat.le_of_succ_le le12
                    have ih12 := ih12 le12
                    refine k_fx ?_
                    rw [B_X5_bookedA_95]
                    refine k_first HG 2 (kb_ge (x := v12_5) (y := a2) ?_ ?_)
                    · show G m12 _ (123, [(0, .inl (.ref q0)), (1, .inl (.int a1)), (2, .inl (.int a2)), (3, .inl (.int a3)), (4, .inl (.int y6.1)), (5, .inl (.int v12_5))], [], h12, nc12, ns12)
                      refine k_steps HG 1 (zB_iff.mpr (?_ : G m12 _ (124, [(0, .inl (.ref q0)), (1, .inl (.int a1)), (2, .inl (.int a2)), (3, .inl (.int a3)), (4, .inl (.int y6.1)), (5, .inl (.int v12_5))], [.inl (.ref q0)], h12, nc12, ns12)))
                      refine k_getR HG rfl K12 hq_q0 rfl (Nat.le_of_ble_eq_true rfl) rfl rfl (fun t13 => (?_ : G m12 _ (127, [(0, .inl (.ref q0)), (1, .inl (.int a1)), (2, .inl (.int a2)), (3, .inl (.int a3)), (4, .inl (.int y6.1)), (5, .inl (.int v12_5))], [.inl (.ref (hr h12 q0 24))], h12, nc12, ns12)))
                      refine k_steps HG 2 (zB_iff.mpr (?_ : G m12 _ (129, [(0, .inl (.ref q0)), (1, .inl (.int a1)), (2, .inl (.int a2)), (3, .inl (.int a3)), (4, .inl (.int y6.1)), (5, .inl (.int v12_5))], [.inl (.int a3), .inl (.ref (hr h12 q0 24)), .inl (.int a3), .inl (.ref (hr h12 q0 24))], h12, nc12, ns12)))
                      refine k_iald HG rfl K12 t13 rfl (fun _ => rfl) (?_ : G m12 _ (130, [(0, .inl (.ref q0)), (1, .inl (.int a1)), (2, .inl (.int a2)), (3, .inl (.int a3)), (4, .inl (.int y6.1)), (5, .inl (.int v12_5))], [.inl (.int (hv h12 (hr h12 q0 24) a3.toNatClampNeg)), .inl (.int a3), .inl (.ref (hr h12 q0 24))], h12, nc12, ns12))
                      refine k_steps HG 2 (zB_iff.mpr (?_ : G m12 _ (132, [(0, .inl (.ref q0)), (1, .inl (.int a1)), (2, .inl (.int a2)), (3, .inl (.int a3)), (4, .inl (.int y6.1)), (5, .inl (.int v12_5))], [.inl (.ref q0), .inl (.int a2), .inl (.int (hv h12 (hr h12 q0 24) a3.toNatClampNeg)), .inl (.int a3), .inl (.ref (hr h12 q0 24))], h12, nc12, ns12)))
                      refine k_getI HG rfl K12 hq_q0 rfl (Nat.le_of_ble_eq_true rfl) rfl (?_ : G m12 _ (135, [(0, .inl (.ref q0)), (1, .inl (.int a1)), (2, .inl (.int a2)), (3, .inl (.int a3)), (4, .inl (.int y6.1)), (5, .inl (.int v12_5))], [.inl (.int (hv h12 q0 11)), .inl (.int a2), .inl (.int (hv h12 (hr h12 q0 24) a3.toNatClampNeg)), .inl (.int a3), .inl (.ref (hr h12 q0 24))], h12, nc12, ns12))
                      refine k_steps HG 2 (zB_iff.mpr (?_ : G m12 _ (137, [(0, .inl (.ref q0)), (1, .inl (.int a1)), (2, .inl (.int a2)), (3, .inl (.int a3)), (4, .inl (.int y6.1)), (5, .inl (.int v12_5))], [.inl (.int ((hv h12 (hr h12 q0 24) a3.toNatClampNeg) - (a2 * (hv h12 q0 11)))), .inl (.int a3), .inl (.ref (hr h12 q0 24))], h12, nc12, ns12)))
                      refine k_iast HG rfl K12 t13 rfl (fun _ => rfl) rfl (fun h14 K14 => (?_ : G m12 _ (138, [(0, .inl (.ref q0)), (1, .inl (.int a1)), (2, .inl (.int a2)), (3, .inl (.int a3)), (4, .inl (.int y6.1)), (5, .inl (.int v12_5))], [], h14, nc12, ns12)))
                      refine k_steps HG 2 (zB_iff.mpr (?_ : G m12 _ (140, [(0, .inl (.ref q0)), (1, .inl (.int a1)), (2, .inl (.int a2)), (3, .inl (.int a3)), (4, .inl (.int y6.1)), (5, .inl (.int v12_5))], [.inl (.ref q0), .inl (.ref q0)], h14, nc12, ns12)))
                      refine k_getI HG rfl K14 hq_q0 rfl (Nat.le_of_ble_eq_true rfl) rfl (?_ : G m12 _ (143, [(0, .inl (.ref q0)), (1, .inl (.int a1)), (2, .inl (.int a2)), (3, .inl (.int a3)), (4, .inl (.int y6.1)), (5, .inl (.int v12_5))], [.inl (.int (hv h14 q0 14)), .inl (.ref q0)], h14, nc12, ns12))
                      refine k_steps HG 2 (zB_iff.mpr (?_ : G m12 _ (145, [(0, .inl (.ref q0)), (1, .inl (.int a1)), (2, .inl (.int a2)), (3, .inl (.int a3)), (4, .inl (.int y6.1)), (5, .inl (.int v12_5))], [.inl (.ref q0), .inl (.int a2), .inl (.int (hv h14 q0 14)), .inl (.ref q0)], h14, nc12, ns12)))
                      refine k_getI HG rfl K14 hq_q0 rfl (Nat.le_of_ble_eq_true rfl) rfl (?_ : G m12 _ (148, [(0, .inl (.ref q0)), (1, .inl (.int a1)), (2, .inl (.int a2)), (3, .inl (.int a3)), (4, .inl (.int y6.1)), (5, .inl (.int v12_5))], [.inl (.int (hv h14 q0 11)), .inl (.int a2), .inl (.int (hv h14 q0 14)), .inl (.ref q0)], h14, nc12, ns12))
                      refine k_steps HG 2 (zB_iff.mpr (?_ : G m12 _ (150, [(0, .inl (.ref q0)), (1, .inl (.int a1)), (2, .inl (.int a2)), (3, .inl (.int a3)), (4, .inl (.int y6.1)), (5, .inl (.int v12_5))], [.inl (.int ((hv h14 q0 14) + (a2 * (hv h14 q0 11)))), .inl (.ref q0)], h14, nc12, ns12)))
                      refine k_putI HG rfl K14 hq_q0 rfl rfl rfl (fun h15 K15 => (?_ : G m12 _ (153, [(0, .inl (.ref q0)), (1, .inl (.int a1)), (2, .inl (.int a2)), (3, .inl (.int a3)), (4, .inl (.int y6.1)), (5, .inl (.int v12_5))], [], h15, nc12, ns12)))
                      refine k_steps HG 1 (zB_iff.mpr (?_ : G m12 _ (154, [(0, .inl (.ref q0)), (1, .inl (.int a1)), (2, .inl (.int a2)), (3, .inl (.int a3)), (4, .inl (.int y6.1)), (5, .inl (.int v12_5))], [.inl (.ref q0)], h15, nc12, ns12)))
                      refine k_getI HG rfl K15 hq_q0 rfl (Nat.le_of_ble_eq_true rfl) rfl (?_ : G m12 _ (157, [(0, .inl (.ref q0)), (1, .inl (.int a1)), (2, .inl (.int a2)), (3, .inl (.int a3)), (4, .inl (.int y6.1)), (5, .inl (.int v12_5))], [.inl (.int (hv h15 q0 40))], h15, nc12, ns12))
                      exact k_reti HG rfl rfl (fun e1 e2 => hR _ _ e1 e2 K15 trivial)
                    · show G m12 _ (101, [(0, .inl (.ref q0)), (1, .inl (.int a1)), (2, .inl (.int a2)), (3, .inl (.int a3)), (4, .inl (.int y6.1)), (5, .inl (.int v12_5))], [], h12, nc12, ns12)
                      refine k_steps HG 2 (zB_iff.mpr (?_ : G m12 _ (103, [(0, .inl (.ref q0)), (1, .inl (.int a1)), (2, .inl (.int a2)), (3, .inl (.int a3)), (4, .inl (.int y6.1)), (5, .inl (.int v12_5))], [.inl (.ref q0), .inl (.ref q0)], h12, nc12, ns12)))
                      refine k_getR HG rfl K12 hq_q0 rfl (Nat.le_of_ble_eq_true rfl) rfl rfl (fun t16 => (?_ : G m12 _ (106, [(0, .inl (.ref q0)), (1, .inl (.int a1)), (2, .inl (.int a2)), (3, .inl (.int a3)), (4, .inl (.int y6.1)), (5, .inl (.int v12_5))], [.inl (.ref (hr h12 q0 3)), .inl (.ref q0)], h12, nc12, ns12)))
                      refine k_steps HG 1 (zB_iff.mpr (?_ : G m12 _ (107, [(0, .inl (.ref q0)), (1, .inl (.int a1)), (2, .inl (.int a2)), (3, .inl (.int a3)), (4, .inl (.int y6.1)), (5, .inl (.int v12_5))], [.inl (.int a1), .inl (.ref (hr h12 q0 3)), .inl (.ref q0)], h12, nc12, ns12)))
                      refine k_aald HG rfl K12 t16 (fun _ => ⟨rfl, rfl⟩) (fun t17 => (?_ : G m12 _ (108, [(0, .inl (.ref q0)), (1, .inl (.int a1)), (2, .inl (.int a2)), (3, .inl (.int a3)), (4, .inl (.int y6.1)), (5, .inl (.int v12_5))], [.inl (.ref (hr h12 (hr h12 q0 3) a1.toNatClampNeg)), .inl (.ref q0)], h12, nc12, ns12)))
                      refine k_steps HG 1 (zB_iff.mpr (?_ : G m12 _ (110, [(0, .inl (.ref q0)), (1, .inl (.int a1)), (2, .inl (.int a2)), (3, .inl (.int a3)), (4, .inl (.int y6.1)), (5, .inl (.int v12_5))], [.inl (.int v12_5), .inl (.ref (hr h12 (hr h12 q0 3) a1.toNatClampNeg)), .inl (.ref q0)], h12, nc12, ns12)))
                      refine k_lald HG rfl K12 t17 rfl (fun _ => rfl) (?_ : G m12 _ (111, [(0, .inl (.ref q0)), (1, .inl (.int a1)), (2, .inl (.int a2)), (3, .inl (.int a3)), (4, .inl (.int y6.1)), (5, .inl (.int v12_5))], [.inl (.long (hJ h12 (hr h12 (hr h12 q0 3) a1.toNatClampNeg) v12_5.toNatClampNeg)), .inl (.ref q0)], h12, nc12, ns12))
                      refine k_steps HG 2 (zB_iff.mpr (?_ : G m12 _ (113, [(0, .inl (.ref q0)), (1, .inl (.int a1)), (2, .inl (.int a2)), (3, .inl (.int a3)), (4, .inl (.int y6.1)), (5, .inl (.int v12_5))], [.inl (.int a3), .inl (.int (Int64.toInt32 (hJ h12 (hr h12 (hr h12 q0 3) a1.toNatClampNeg) v12_5.toNatClampNeg))), .inl (.ref q0)], h12, nc12, ns12)))
                      refine k_cVIH HG (E' := ze_X5_comesOut) (Or.inl ⟨rfl, rfl⟩) hsc rfl rfl rfl rfl rfl K12 rfl (fun hh => x_X5_comesOut hsc K12.1 hq_q0 hh) (fun y18 K18 => (?_ : G m12 _ (116, [(0, .inl (.ref q0)), (1, .inl (.int a1)), (2, .inl (.int a2)), (3, .inl (.int a3)), (4, .inl (.int y6.1)), (5, .inl (.int v12_5))], [.inl (.int y18.1)], y18.2, nc12, ns12)))
                      refine k_steps HG 3 (zB_iff.mpr (?_ : G m12 _ (95, [(5, .inl (.int (v12_5 + (1 : Int32)))), (0, .inl (.ref q0)), (1, .inl (.int a1)), (2, .inl (.int a2)), (3, .inl (.int a3)), (4, .inl (.int y6.1))], [], y18.2, nc12, ns12)))
                      refine k_ext HG (L' := [(0, .inl (.ref q0)), (1, .inl (.int a1)), (2, .inl (.int a2)), (3, .inl (.int a3)), (4, .inl (.int y6.1)), (5, .inl (.int (v12_5 + (1 : Int32))))]) rfl rfl ⟨rfl, rfl, rfl, rfl, rfl, rfl, trivial⟩ ?_
                      exact ih12 _ _ _ _ K18
                refine k_ext HG (L' := [(0, .inl (.ref q0)), (1, .inl (.int a1)), (2, .inl (.int a2)), (3, .inl (.int a3)), (4, .inl (.int y6.1)), (5, .inl (.int (0 : Int32)))]) rfl rfl ⟨rfl, rfl, rfl, rfl, rfl, rfl, trivial⟩ ?_
                exact lp12 m (Nat.le_refl _) _ _ _ _ K9
              · show G m _ (85, [(4, .inl (.int y6.1)), (0, .inl (.ref q0)), (1, .inl (.int a1)), (2, .inl (.int a2)), (3, .inl (.int a3))], [], y9.2, (0 + zEc ze_X5_wrongIn), (0 + zEs ze_X5_wrongIn))
                refine k_steps HG 2 (zB_iff.mpr (?_ : G m _ (88, [(4, .inl (.int y6.1)), (0, .inl (.ref q0)), (1, .inl (.int a1)), (2, .inl (.int a2)), (3, .inl (.int a3))], [.inl (.int (-5 : Int32)), .inl (.ref q0)], y9.2, (0 + zEc ze_X5_wrongIn), (0 + zEs ze_X5_wrongIn))))
                refine k_cVIH HG (E' := ze_X5_refuse) (Or.inl ⟨rfl, rfl⟩) hsc rfl rfl rfl rfl rfl K9 rfl (fun hh => x_X5_refuse hsc K9.1 hq_q0 hh) (fun y19 K19 => (?_ : G m _ (91, [(4, .inl (.int y6.1)), (0, .inl (.ref q0)), (1, .inl (.int a1)), (2, .inl (.int a2)), (3, .inl (.int a3))], [.inl (.int y19.1)], y19.2, (0 + zEc ze_X5_wrongIn), (0 + zEs ze_X5_wrongIn))))
                exact k_reti HG rfl rfl (fun e1 e2 => hR _ _ e1 e2 K19 trivial)
          · show G m _ (52, [(4, .inl (.int y6.1)), (0, .inl (.ref q0)), (1, .inl (.int a1)), (2, .inl (.int a2)), (3, .inl (.int a3))], [], y6.2, 0, 0)
            refine k_steps HG 1 (zB_iff.mpr (?_ : G m _ (54, [(4, .inl (.int y6.1)), (0, .inl (.ref q0)), (1, .inl (.int a1)), (2, .inl (.int a2)), (3, .inl (.int a3))], [.inl (.int y6.1)], y6.2, 0, 0)))
            exact k_reti HG rfl rfl (fun e1 e2 => hR _ _ e1 e2 K6 trivial)
        · show G m _ (32, [(0, .inl (.ref q0)), (1, .inl (.int a1)), (2, .inl (.int a2)), (3, .inl (.int a3))], [], h, 0, 0)
          refine k_steps HG 2 (zB_iff.mpr (?_ : G m _ (35, [(0, .inl (.ref q0)), (1, .inl (.int a1)), (2, .inl (.int a2)), (3, .inl (.int a3))], [.inl (.int (-2 : Int32)), .inl (.ref q0)], h, 0, 0)))
          refine k_cVIH HG (E' := ze_X5_refuse) (Or.inl ⟨rfl, rfl⟩) hsc rfl rfl rfl rfl rfl K rfl (fun hh => x_X5_refuse hsc K.1 hq_q0 hh) (fun y20 K20 => (?_ : G m _ (38, [(0, .inl (.ref q0)), (1, .inl (.int a1)), (2, .inl (.int a2)), (3, .inl (.int a3))], [.inl (.int y20.1)], y20.2, 0, 0)))
          exact k_reti HG rfl rfl (fun e1 e2 => hR _ _ e1 e2 K20 trivial)
def W_X5_wrongInB : List (Nat × Nat) := [(5, 27), (5, 40), (6, 9), (6, 10), (6, 11), (6, 12), (6, 13), (6, 14), (6, 15), (6, 17), (6, 23), (31, 1000), (32, 1000), (33, 1000), (34, 1000), (35, 1000), (36, 1000), (37, 1000), (39, 1000)]
def P_X5_wrongInB : List (Nat × Nat) := [(5, 40), (6, 9), (6, 10), (6, 11), (6, 12), (6, 13), (6, 14), (6, 15), (6, 17), (6, 23), (31, 1000), (32, 1000), (33, 1000), (34, 1000), (35, 1000), (36, 1000), (37, 1000), (39, 1000)]
noncomputable def B_X5_wrongInB_13 (c0 : Nat) (c1 : Nat) (c2 : Int32) (c3 : Nat) (s : (Int32 × zH)) : (Int32 × zH) ⊕ (Int32 × zH) := (if s.1 < c2 then (letf (F_X5_in (hJ s.2 c1 s.1.toNatClampNeg) (1 : Int64) (Int32.toInt64 (hv s.2 c0 9))) (fun y1001 => (if y1001 = (0 : Int32) then (Sum.inr (s.1, s.2)) else (letf (F_X5_canDraw_6 s.2 c3 (Int64.toInt32 (hJ s.2 c1 s.1.toNatClampNeg))) (fun y1002 => (if y1002 = (0 : Int32) then (Sum.inr (s.1, s.2)) else (letf (F_X5_comesOut_6 s.2 c3 (Int64.toInt32 (hJ s.2 c1 s.1.toNatClampNeg)) (0 : Int32)) (fun y1003 => (letf (hput y1003.2 c0 40 (.inl (.int ((hv s.2 c0 40) ||| y1003.1)))) (fun h1004 => (Sum.inl ((s.1 + (1 : Int32)), h1004)))))))))))) else (Sum.inr ((-1 : Int32), s.2)))
noncomputable def F_X5_wrongInB (h : zH) (q0 : Nat) (q1 : Nat) (a2 : Int32) : Int32 × zH := (letf (F_X5_freshB h q0) (fun y1 => (letf (hput y1.2 q0 40 (.inl (.int (0 : Int32)))) (fun h2 => (fx (B_X5_wrongInB_13 q0 q1 a2 y1.1) (0, []) ((0 : Int32), h2))))))
theorem x_X5_wrongInB {scr : List zV} {D : Nat} {T : List Nat} {h : zH} {q0 : Nat} {q1 : Nat} {a2 : Int32} (hsc : cT scr) (K : hOK kty T h) (hq_q0 : T[q0]? = some 5) (hq_q1 : T[q1]? = some 28) (V_27 : hget h q0 27 = some (.inl .null)) (hh : cH h) (hlen : T.length ≤ 900000) : xIHd scr W_X5_wrongInB T (T ++ iTys) (fun _ => True) D 250 [.inl (.ref q0), .inl (.ref q1), .inl (.int a2)] h (F_X5_wrongInB h q0 q1 a2) := by
  cases D with
  | zero => exact fun _ _ hx => absurd hx (fun q => xD_zero q)
  | succ D =>
    refine xIHd_intro (E := ze_X5_wrongIn) hsc rfl (cTb_ok rfl) hh (fun r h' G HG Pf hR m => ?_)
    have K := kOK_refl (W := P_X5_wrongInB) K
    unfold F_X5_wrongInB
    show G m _ (0, [(0, .inl (.ref q0)), (1, .inl (.ref q1)), (2, .inl (.int a2))], [], h, 0, 0)
    refine k_steps HG 1 (zB_iff.mpr (?_ : G m _ (1, [(0, .inl (.ref q0)), (1, .inl (.ref q1)), (2, .inl (.int a2))], [.inl (.ref q0)], h, 0, 0)))
    refine k_cVRHd HG (E' := ze_X5_fresh) (Or.inl ⟨rfl, rfl⟩) hsc rfl rfl rfl (kOK_wk (W := W_X5_wrongInB) rfl K) rfl (fun hh => x_X5_freshB hsc K.1 hq_q0 (kNul_of V_27 K hq_q0 rfl) hh hlen) (fun y1 K1 Q1 => ?_)
    have A1 := K1
    have K1 := kOK_refl (W := P_X5_wrongInB) K1.1
    show G m _ (4, [(0, .inl (.ref q0)), (1, .inl (.ref q1)), (2, .inl (.int a2))], [.inl (.ref y1.1)], y1.2, (0 + zEc ze_X5_fresh), (0 + zEs ze_X5_fresh))
    refine k_steps HG 3 (zB_iff.mpr (?_ : G m _ (7, [(3, .inl (.ref y1.1)), (0, .inl (.ref q0)), (1, .inl (.ref q1)), (2, .inl (.int a2))], [.inl (.int (0 : Int32)), .inl (.ref q0)], y1.2, (0 + zEc ze_X5_fresh), (0 + zEs ze_X5_fresh))))
    refine k_putI HG rfl K1 (tExt_app _ _ _ _ hq_q0) rfl rfl rfl (fun h2 K2 => (?_ : G m _ (10, [(3, .inl (.ref y1.1)), (0, .inl (.ref q0)), (1, .inl (.ref q1)), (2, .inl (.int a2))], [], h2, (0 + zEc ze_X5_fresh), (0 + zEs ze_X5_fresh))))
    refine k_steps HG 2 (zB_iff.mpr (?_ : G m _ (13, [(4, .inl (.int (0 : Int32))), (3, .inl (.ref y1.1)), (0, .inl (.ref q0)), (1, .inl (.ref q1)), (2, .inl (.int a2))], [], h2, (0 + zEc ze_X5_fresh), (0 + zEs ze_X5_fresh))))
    have lp3 : ∀ m3, m3 ≤ m → ∀ (nc3 : Nat) (ns3 : Nat) (v3_4 : Int32) (h3 : zH), kOK P_X5_wrongInB (T ++ iTys) (T ++ iTys) y1.2 h3 → G m3 (Pf (fx (B_X5_wrongInB_13 q0 q1 a2 y1.1) (0, []) (v3_4, h3))) (13, [(0, .inl (.ref q0)), (1, .inl (.ref q1)), (2, .inl (.int a2)), (3, .inl (.ref y1.1)), (4, .inl (.int v3_4))], [], h3, nc3, ns3) := by
      intro m3
      induction m3 with
      | zero =>
        intros
        exact k_zero HG
      | succ m3 ih3 =>
        intro le3 nc3 ns3 v3_4 h3 K3
        have le3 := Nat.le_of_succ_le le3
        have ih3 := ih3 le3
        refine k_fx ?_
        rw [B_X5_wrongInB_13]
        refine k_first HG 2 (kb_ge (x := v3_4) (y := a2) ?_ ?_)
        · show G m3 _ (75, [(0, .inl (.ref q0)), (1, .inl (.ref q1)), (2, .inl (.int a2)), (3, .inl (.ref y1.1)), (4, .inl (.int v3_4))], [], h3, nc3, ns3)
          refine k_steps HG 1 (zB_iff.mpr (?_ : G m3 _ (76, [(0, .inl (.ref q0)), (1, .inl (.ref q1)), (2, .inl (.int a2)), (3, .inl (.ref y1.1)), (4, .inl (.int v3_4))], [.inl (.int (-1 : Int32))], h3, nc3, ns3)))
          exact k_reti HG rfl rfl (fun e1 e2 => hR _ _ e1 e2 (kOK_trans A1 rfl K3) trivial)
        · show G m3 _ (19, [(0, .inl (.ref q0)), (1, .inl (.ref q1)), (2, .inl (.int a2)), (3, .inl (.ref y1.1)), (4, .inl (.int v3_4))], [], h3, nc3, ns3)
          refine k_steps HG 2 (zB_iff.mpr (?_ : G m3 _ (22, [(0, .inl (.ref q0)), (1, .inl (.ref q1)), (2, .inl (.int a2)), (3, .inl (.ref y1.1)), (4, .inl (.int v3_4))], [.inl (.int v3_4), .inl (.ref q1)], h3, nc3, ns3)))
          refine k_lald HG rfl K3 (tExt_app _ _ _ _ hq_q1) rfl (fun _ => rfl) (?_ : G m3 _ (23, [(0, .inl (.ref q0)), (1, .inl (.ref q1)), (2, .inl (.int a2)), (3, .inl (.ref y1.1)), (4, .inl (.int v3_4))], [.inl (.long (hJ h3 q1 v3_4.toNatClampNeg))], h3, nc3, ns3))
          refine k_steps HG 2 (zB_iff.mpr (?_ : G m3 _ (25, [(0, .inl (.ref q0)), (1, .inl (.ref q1)), (2, .inl (.int a2)), (3, .inl (.ref y1.1)), (4, .inl (.int v3_4))], [.inl (.ref q0), .inl (.long (1 : Int64)), .inl (.long (hJ h3 q1 v3_4.toNatClampNeg))], h3, nc3, ns3)))
          refine k_getI HG rfl K3 (tExt_app _ _ _ _ hq_q0) rfl (Nat.le_of_ble_eq_true rfl) rfl (?_ : G m3 _ (28, [(0, .inl (.ref q0)), (1, .inl (.ref q1)), (2, .inl (.int a2)), (3, .inl (.ref y1.1)), (4, .inl (.int v3_4))], [.inl (.int (hv h3 q0 9)), .inl (.long (1 : Int64)), .inl (.long (hJ h3 q1 v3_4.toNatClampNeg))], h3, nc3, ns3))
          refine k_steps HG 1 (zB_iff.mpr (?_ : G m3 _ (29, [(0, .inl (.ref q0)), (1, .inl (.ref q1)), (2, .inl (.int a2)), (3, .inl (.ref y1.1)), (4, .inl (.int v3_4))], [.inl (.long (Int32.toInt64 (hv h3 q0 9))), .inl (.long (1 : Int64)), .inl (.long (hJ h3 q1 v3_4.toNatClampNeg))], h3, nc3, ns3)))
          refine k_cSI HG (E' := ze_X5_in) (Or.inl rfl) hsc rfl rfl rfl rfl (fun hh => x_X5_in hsc hh) (fun y4 => (?_ : G m3 _ (32, [(0, .inl (.ref q0)), (1, .inl (.ref q1)), (2, .inl (.int a2)), (3, .inl (.ref y1.1)), (4, .inl (.int v3_4))], [.inl (.int y4)], h3, nc3, ns3)))
          refine k_steps HG 1 (kb_eq (x := y4) (y := (0 : Int32)) ?_ ?_)
          · show G m3 _ (47, [(0, .inl (.ref q0)), (1, .inl (.ref q1)), (2, .inl (.int a2)), (3, .inl (.ref y1.1)), (4, .inl (.int v3_4))], [], h3, nc3, ns3)
            refine k_steps HG 1 (zB_iff.mpr (?_ : G m3 _ (49, [(0, .inl (.ref q0)), (1, .inl (.ref q1)), (2, .inl (.int a2)), (3, .inl (.ref y1.1)), (4, .inl (.int v3_4))], [.inl (.int v3_4)], h3, nc3, ns3)))
            exact k_reti HG rfl rfl (fun e1 e2 => hR _ _ e1 e2 (kOK_trans A1 rfl K3) trivial)
          · show G m3 _ (35, [(0, .inl (.ref q0)), (1, .inl (.ref q1)), (2, .inl (.int a2)), (3, .inl (.ref y1.1)), (4, .inl (.int v3_4))], [], h3, nc3, ns3)
            refine k_steps HG 3 (zB_iff.mpr (?_ : G m3 _ (39, [(0, .inl (.ref q0)), (1, .inl (.ref q1)), (2, .inl (.int a2)), (3, .inl (.ref y1.1)), (4, .inl (.int v3_4))], [.inl (.int v3_4), .inl (.ref q1), .inl (.ref y1.1)], h3, nc3, ns3)))
            refine k_lald HG rfl K3 (tExt_app _ _ _ _ hq_q1) rfl (fun _ => rfl) (?_ : G m3 _ (40, [(0, .inl (.ref q0)), (1, .inl (.ref q1)), (2, .inl (.int a2)), (3, .inl (.ref y1.1)), (4, .inl (.int v3_4))], [.inl (.long (hJ h3 q1 v3_4.toNatClampNeg)), .inl (.ref y1.1)], h3, nc3, ns3))
            refine k_steps HG 1 (zB_iff.mpr (?_ : G m3 _ (41, [(0, .inl (.ref q0)), (1, .inl (.ref q1)), (2, .inl (.int a2)), (3, .inl (.ref y1.1)), (4, .inl (.int v3_4))], [.inl (.int (Int64.toInt32 (hJ h3 q1 v3_4.toNatClampNeg))), .inl (.ref y1.1)], h3, nc3, ns3)))
            refine k_cVI HG (E' := ze_X5_canDraw) (Or.inl ⟨rfl, rfl⟩) hsc rfl rfl rfl rfl rfl (fun hh => x_X5_canDraw_6 hsc K3.1 Q1 hh) (fun y5 => (?_ : G m3 _ (44, [(0, .inl (.ref q0)), (1, .inl (.ref q1)), (2, .inl (.int a2)), (3, .inl (.ref y1.1)), (4, .inl (.int v3_4))], [.inl (.int y5)], h3, nc3, ns3)))
            refine k_steps HG 1 (kb_ne (x := y5) (y := (0 : Int32)) ?_ ?_)
            · show G m3 _ (50, [(0, .inl (.ref q0)), (1, .inl (.ref q1)), (2, .inl (.int a2)), (3, .inl (.ref y1.1)), (4, .inl (.int v3_4))], [], h3, nc3, ns3)
              refine k_steps HG 2 (zB_iff.mpr (?_ : G m3 _ (52, [(0, .inl (.ref q0)), (1, .inl (.ref q1)), (2, .inl (.int a2)), (3, .inl (.ref y1.1)), (4, .inl (.int v3_4))], [.inl (.ref q0), .inl (.ref q0)], h3, nc3, ns3)))
              refine k_getI HG rfl K3 (tExt_app _ _ _ _ hq_q0) rfl (Nat.le_of_ble_eq_true rfl) rfl (?_ : G m3 _ (55, [(0, .inl (.ref q0)), (1, .inl (.ref q1)), (2, .inl (.int a2)), (3, .inl (.ref y1.1)), (4, .inl (.int v3_4))], [.inl (.int (hv h3 q0 40)), .inl (.ref q0)], h3, nc3, ns3))
              refine k_steps HG 3 (zB_iff.mpr (?_ : G m3 _ (59, [(0, .inl (.ref q0)), (1, .inl (.ref q1)), (2, .inl (.int a2)), (3, .inl (.ref y1.1)), (4, .inl (.int v3_4))], [.inl (.int v3_4), .inl (.ref q1), .inl (.ref y1.1), .inl (.int (hv h3 q0 40)), .inl (.ref q0)], h3, nc3, ns3)))
              refine k_lald HG rfl K3 (tExt_app _ _ _ _ hq_q1) rfl (fun _ => rfl) (?_ : G m3 _ (60, [(0, .inl (.ref q0)), (1, .inl (.ref q1)), (2, .inl (.int a2)), (3, .inl (.ref y1.1)), (4, .inl (.int v3_4))], [.inl (.long (hJ h3 q1 v3_4.toNatClampNeg)), .inl (.ref y1.1), .inl (.int (hv h3 q0 40)), .inl (.ref q0)], h3, nc3, ns3))
              refine k_steps HG 2 (zB_iff.mpr (?_ : G m3 _ (62, [(0, .inl (.ref q0)), (1, .inl (.ref q1)), (2, .inl (.int a2)), (3, .inl (.ref y1.1)), (4, .inl (.int v3_4))], [.inl (.int (0 : Int32)), .inl (.int (Int64.toInt32 (hJ h3 q1 v3_4.toNatClampNeg))), .inl (.ref y1.1), .inl (.int (hv h3 q0 40)), .inl (.ref q0)], h3, nc3, ns3)))
              refine k_cVIH HG (E' := ze_X5_comesOut) (Or.inl ⟨rfl, rfl⟩) hsc rfl rfl rfl rfl rfl K3 rfl (fun hh => x_X5_comesOut_6 hsc K3.1 Q1 hh) (fun y6 K6 => (?_ : G m3 _ (65, [(0, .inl (.ref q0)), (1, .inl (.ref q1)), (2, .inl (.int a2)), (3, .inl (.ref y1.1)), (4, .inl (.int v3_4))], [.inl (.int y6.1), .inl (.int (hv h3 q0 40)), .inl (.ref q0)], y6.2, nc3, ns3)))
              refine k_steps HG 1 (zB_iff.mpr (?_ : G m3 _ (66, [(0, .inl (.ref q0)), (1, .inl (.ref q1)), (2, .inl (.int a2)), (3, .inl (.ref y1.1)), (4, .inl (.int v3_4))], [.inl (.int ((hv h3 q0 40) ||| y6.1)), .inl (.ref q0)], y6.2, nc3, ns3)))
              refine k_putI HG rfl K6 (tExt_app _ _ _ _ hq_q0) rfl rfl rfl (fun h7 K7 => (?_ : G m3 _ (69, [(0, .inl (.ref q0)), (1, .inl (.ref q1)), (2, .inl (.int a2)), (3, .inl (.ref y1.1)), (4, .inl (.int v3_4))], [], h7, nc3, ns3)))
              refine k_steps HG 2 (zB_iff.mpr (?_ : G m3 _ (13, [(4, .inl (.int (v3_4 + (1 : Int32)))), (0, .inl (.ref q0)), (1, .inl (.ref q1)), (2, .inl (.int a2)), (3, .inl (.ref y1.1))], [], h7, nc3, ns3)))
              refine k_ext HG (L' := [(0, .inl (.ref q0)), (1, .inl (.ref q1)), (2, .inl (.int a2)), (3, .inl (.ref y1.1)), (4, .inl (.int (v3_4 + (1 : Int32))))]) rfl rfl ⟨rfl, rfl, rfl, rfl, rfl, trivial⟩ ?_
              exact ih3 _ _ _ _ K7
            · show G m3 _ (47, [(0, .inl (.ref q0)), (1, .inl (.ref q1)), (2, .inl (.int a2)), (3, .inl (.ref y1.1)), (4, .inl (.int v3_4))], [], h3, nc3, ns3)
              refine k_steps HG 1 (zB_iff.mpr (?_ : G m3 _ (49, [(0, .inl (.ref q0)), (1, .inl (.ref q1)), (2, .inl (.int a2)), (3, .inl (.ref y1.1)), (4, .inl (.int v3_4))], [.inl (.int v3_4)], h3, nc3, ns3)))
              exact k_reti HG rfl rfl (fun e1 e2 => hR _ _ e1 e2 (kOK_trans A1 rfl K3) trivial)
    refine k_ext HG (L' := [(0, .inl (.ref q0)), (1, .inl (.ref q1)), (2, .inl (.int a2)), (3, .inl (.ref y1.1)), (4, .inl (.int (0 : Int32)))]) rfl rfl ⟨rfl, rfl, rfl, rfl, rfl, trivial⟩ ?_
    exact lp3 m (Nat.le_refl _) _ _ _ _ K2
def W_X5_stallB : List (Nat × Nat) := [(5, 7), (5, 9), (5, 10), (5, 11), (5, 12), (5, 13), (5, 14), (5, 15), (5, 17), (5, 23), (5, 27), (5, 28), (5, 29), (5, 30), (5, 31), (5, 32), (5, 34), (6, 9), (6, 10), (6, 11), (6, 12), (6, 13), (6, 14), (6, 15), (6, 17), (6, 23), (30, 1000), (31, 1000), (32, 1000), (33, 1000), (34, 1000), (35, 1000), (36, 1000), (37, 1000), (39, 1000), (40, 1000)]
def P_X5_stallB : List (Nat × Nat) := [(5, 7), (5, 9), (5, 10), (5, 11), (5, 12), (5, 13), (5, 14), (5, 15), (5, 17), (5, 23), (5, 28), (5, 29), (5, 30), (5, 31), (5, 32), (5, 34), (6, 9), (6, 10), (6, 11), (6, 12), (6, 13), (6, 14), (6, 15), (6, 17), (6, 23), (30, 1000), (31, 1000), (32, 1000), (33, 1000), (34, 1000), (35, 1000), (36, 1000), (37, 1000), (39, 1000), (40, 1000)]
noncomputable def F_X5_stallB (h : zH) (q0 : Nat) : Int32 × zH := (letf (F_X5_freshB h q0) (fun y1 => (letf (F_X5_readAll y1.2 q0) (fun y2 => (letf (hput y2.2 q0 7 (.inl (.int (0 : Int32)))) (fun h3 => (if y2.1 = (0 : Int32) then (letf (F_X5_takeFrom_56 h3 q0 y1.1) (fun h4 => (letf (F_X5_refuse h4 q0 (-2 : Int32)) (fun y5 => (((-20 : Int32) - (hv y5.2 q0 32)), y5.2))))) else ((hv h3 q0 34), h3))))))))
theorem x_X5_stallB {scr : List zV} {D : Nat} {T : List Nat} {h : zH} {q0 : Nat} (hsc : cT scr) (K : hOK kty T h) (hq_q0 : T[q0]? = some 5) (V_27 : hget h q0 27 = some (.inl .null)) (hh : cH h) (hlen : T.length ≤ 900000) : xIHd scr W_X5_stallB T (T ++ iTys) (fun _ => True) D 225 [.inl (.ref q0)] h (F_X5_stallB h q0) := by
  cases D with
  | zero => exact fun _ _ hx => absurd hx (fun q => xD_zero q)
  | succ D =>
    refine xIHd_intro (E := ze_X5_stall) hsc rfl (cTb_ok rfl) hh (fun r h' G HG Pf hR m => ?_)
    have K := kOK_refl (W := P_X5_stallB) K
    unfold F_X5_stallB
    show G m _ (0, [(0, .inl (.ref q0))], [], h, 0, 0)
    refine k_steps HG 1 (zB_iff.mpr (?_ : G m _ (1, [(0, .inl (.ref q0))], [.inl (.ref q0)], h, 0, 0)))
    refine k_cVRHd HG (E' := ze_X5_fresh) (Or.inl ⟨rfl, rfl⟩) hsc rfl rfl rfl (kOK_wk (W := W_X5_stallB) rfl K) rfl (fun hh => x_X5_freshB hsc K.1 hq_q0 (kNul_of V_27 K hq_q0 rfl) hh hlen) (fun y1 K1 Q1 => ?_)
    have A1 := K1
    have K1 := kOK_refl (W := P_X5_stallB) K1.1
    show G m _ (4, [(0, .inl (.ref q0))], [.inl (.ref y1.1)], y1.2, (0 + zEc ze_X5_fresh), (0 + zEs ze_X5_fresh))
    refine k_steps HG 2 (zB_iff.mpr (?_ : G m _ (6, [(1, .inl (.ref y1.1)), (0, .inl (.ref q0))], [.inl (.ref q0)], y1.2, (0 + zEc ze_X5_fresh), (0 + zEs ze_X5_fresh))))
    refine k_cVIH HG (E' := ze_X5_readAll) (Or.inl ⟨rfl, rfl⟩) hsc rfl rfl rfl rfl rfl K1 rfl (fun hh => x_X5_readAll hsc K1.1 (tExt_app _ _ _ _ hq_q0) hh) (fun y2 K2 => (?_ : G m _ (9, [(1, .inl (.ref y1.1)), (0, .inl (.ref q0))], [.inl (.int y2.1)], y2.2, (0 + zEc ze_X5_fresh), (0 + zEs ze_X5_fresh))))
    refine k_steps HG 3 (zB_iff.mpr (?_ : G m _ (12, [(2, .inl (.int y2.1)), (1, .inl (.ref y1.1)), (0, .inl (.ref q0))], [.inl (.int (0 : Int32)), .inl (.ref q0)], y2.2, (0 + zEc ze_X5_fresh), (0 + zEs ze_X5_fresh))))
    refine k_putI HG rfl K2 (tExt_app _ _ _ _ hq_q0) rfl rfl rfl (fun h3 K3 => (?_ : G m _ (15, [(2, .inl (.int y2.1)), (1, .inl (.ref y1.1)), (0, .inl (.ref q0))], [], h3, (0 + zEc ze_X5_fresh), (0 + zEs ze_X5_fresh))))
    refine k_steps HG 2 (kb_ne (x := y2.1) (y := (0 : Int32)) ?_ ?_)
    · show G m _ (39, [(2, .inl (.int y2.1)), (1, .inl (.ref y1.1)), (0, .inl (.ref q0))], [], h3, (0 + zEc ze_X5_fresh), (0 + zEs ze_X5_fresh))
      refine k_steps HG 1 (zB_iff.mpr (?_ : G m _ (40, [(2, .inl (.int y2.1)), (1, .inl (.ref y1.1)), (0, .inl (.ref q0))], [.inl (.ref q0)], h3, (0 + zEc ze_X5_fresh), (0 + zEs ze_X5_fresh))))
      refine k_getI HG rfl K3 (tExt_app _ _ _ _ hq_q0) rfl (Nat.le_of_ble_eq_true rfl) rfl (?_ : G m _ (43, [(2, .inl (.int y2.1)), (1, .inl (.ref y1.1)), (0, .inl (.ref q0))], [.inl (.int (hv h3 q0 34))], h3, (0 + zEc ze_X5_fresh), (0 + zEs ze_X5_fresh)))
      exact k_reti HG rfl rfl (fun e1 e2 => hR _ _ e1 e2 (kOK_trans A1 rfl K3) trivial)
    · show G m _ (19, [(2, .inl (.int y2.1)), (1, .inl (.ref y1.1)), (0, .inl (.ref q0))], [], h3, (0 + zEc ze_X5_fresh), (0 + zEs ze_X5_fresh))
      refine k_steps HG 2 (zB_iff.mpr (?_ : G m _ (21, [(2, .inl (.int y2.1)), (1, .inl (.ref y1.1)), (0, .inl (.ref q0))], [.inl (.ref y1.1), .inl (.ref q0)], h3, (0 + zEc ze_X5_fresh), (0 + zEs ze_X5_fresh))))
      refine k_cVH HG (E' := ze_X5_takeFrom) (Or.inl ⟨rfl, rfl⟩) hsc rfl rfl rfl rfl rfl K3 rfl (fun hh => x_X5_takeFrom_56 hsc K3.1 (tExt_app _ _ _ _ hq_q0) Q1 hh) (fun h4 K4 => (?_ : G m _ (24, [(2, .inl (.int y2.1)), (1, .inl (.ref y1.1)), (0, .inl (.ref q0))], [], h4, (0 + zEc ze_X5_fresh), (0 + zEs ze_X5_fresh))))
      refine k_steps HG 2 (zB_iff.mpr (?_ : G m _ (27, [(2, .inl (.int y2.1)), (1, .inl (.ref y1.1)), (0, .inl (.ref q0))], [.inl (.int (-2 : Int32)), .inl (.ref q0)], h4, (0 + zEc ze_X5_fresh), (0 + zEs ze_X5_fresh))))
      refine k_cVIH HG (E' := ze_X5_refuse) (Or.inl ⟨rfl, rfl⟩) hsc rfl rfl rfl rfl rfl K4 rfl (fun hh => x_X5_refuse hsc K4.1 (tExt_app _ _ _ _ hq_q0) hh) (fun y5 K5 => (?_ : G m _ (30, [(2, .inl (.int y2.1)), (1, .inl (.ref y1.1)), (0, .inl (.ref q0))], [.inl (.int y5.1)], y5.2, (0 + zEc ze_X5_fresh), (0 + zEs ze_X5_fresh))))
      refine k_steps HG 3 (zB_iff.mpr (?_ : G m _ (34, [(2, .inl (.int y2.1)), (1, .inl (.ref y1.1)), (0, .inl (.ref q0))], [.inl (.ref q0), .inl (.int (-20 : Int32))], y5.2, (0 + zEc ze_X5_fresh), (0 + zEs ze_X5_fresh))))
      refine k_getI HG rfl K5 (tExt_app _ _ _ _ hq_q0) rfl (Nat.le_of_ble_eq_true rfl) rfl (?_ : G m _ (37, [(2, .inl (.int y2.1)), (1, .inl (.ref y1.1)), (0, .inl (.ref q0))], [.inl (.int (hv y5.2 q0 32)), .inl (.int (-20 : Int32))], y5.2, (0 + zEc ze_X5_fresh), (0 + zEs ze_X5_fresh)))
      refine k_steps HG 1 (zB_iff.mpr (?_ : G m _ (38, [(2, .inl (.int y2.1)), (1, .inl (.ref y1.1)), (0, .inl (.ref q0))], [.inl (.int ((-20 : Int32) - (hv y5.2 q0 32)))], y5.2, (0 + zEc ze_X5_fresh), (0 + zEs ze_X5_fresh))))
      exact k_reti HG rfl rfl (fun e1 e2 => hR _ _ e1 e2 (kOK_trans A1 rfl K5) trivial)
def W_X5_judgeB : List (Nat × Nat) := [(5, 27), (5, 40), (6, 9), (6, 10), (6, 11), (6, 12), (6, 13), (6, 14), (6, 15), (6, 17), (6, 23), (30, 1000), (31, 1000), (32, 1000), (33, 1000), (34, 1000), (35, 1000), (36, 1000), (37, 1000), (39, 1000)]
def P_X5_judgeB : List (Nat × Nat) := [(5, 40), (6, 9), (6, 10), (6, 11), (6, 12), (6, 13), (6, 14), (6, 15), (6, 17), (6, 23), (30, 1000), (31, 1000), (32, 1000), (33, 1000), (34, 1000), (35, 1000), (36, 1000), (37, 1000), (39, 1000)]
noncomputable def F_X5_judgeB (h : zH) (q0 : Nat) (a1 : Int32) (a2 : Int32) : Int32 × zH := (letf (F_X5_noBook h q0 a1 a2) (fun y1 => (if y1.1 = (0 : Int32) then (letf (F_X5_wrongInB y1.2 q0 (hr y1.2 (hr y1.2 q0 3) a1.toNatClampNeg) a2) (fun y4 => (y4.1, y4.2))) else (y1.1, y1.2))))
theorem x_X5_judgeB {scr : List zV} {D : Nat} {T : List Nat} {h : zH} {q0 : Nat} {a1 : Int32} {a2 : Int32} (hsc : cT scr) (K : hOK kty T h) (hq_q0 : T[q0]? = some 5) (V_27 : hget h q0 27 = some (.inl .null)) (hh : cH h) (hlen : T.length ≤ 900000) : xIHe scr W_X5_judgeB T  D 194 [.inl (.ref q0), .inl (.int a1), .inl (.int a2)] h (F_X5_judgeB h q0 a1 a2) := by
  cases D with
  | zero => exact fun _ _ hx => absurd hx (fun q => xD_zero q)
  | succ D =>
    refine xIHe_intro (E := ze_X5_judge) hsc rfl (cTb_ok rfl) hh (fun r h' G HG Pf hR m => ?_)
    have K := kOK_refl (W := P_X5_judgeB) K
    unfold F_X5_judgeB
    show G m _ (0, [(0, .inl (.ref q0)), (1, .inl (.int a1)), (2, .inl (.int a2))], [], h, 0, 0)
    refine k_steps HG 3 (zB_iff.mpr (?_ : G m _ (3, [(0, .inl (.ref q0)), (1, .inl (.int a1)), (2, .inl (.int a2))], [.inl (.int a2), .inl (.int a1), .inl (.ref q0)], h, 0, 0)))
    refine k_cVIH HG (E' := ze_X5_noBook) (Or.inl ⟨rfl, rfl⟩) hsc rfl rfl rfl rfl rfl K rfl (fun hh => x_X5_noBook hsc K.1 hq_q0 hh) (fun y1 K1 => (?_ : G m _ (6, [(0, .inl (.ref q0)), (1, .inl (.int a1)), (2, .inl (.int a2))], [.inl (.int y1.1)], y1.2, 0, 0)))
    refine k_steps HG 3 (kb_eq (x := y1.1) (y := (0 : Int32)) ?_ ?_)
    · show G m _ (15, [(3, .inl (.int y1.1)), (0, .inl (.ref q0)), (1, .inl (.int a1)), (2, .inl (.int a2))], [], y1.2, 0, 0)
      refine k_steps HG 2 (zB_iff.mpr (?_ : G m _ (17, [(3, .inl (.int y1.1)), (0, .inl (.ref q0)), (1, .inl (.int a1)), (2, .inl (.int a2))], [.inl (.ref q0), .inl (.ref q0)], y1.2, 0, 0)))
      refine k_getR HG rfl K1 hq_q0 rfl (Nat.le_of_ble_eq_true rfl) rfl rfl (fun t2 => (?_ : G m _ (20, [(3, .inl (.int y1.1)), (0, .inl (.ref q0)), (1, .inl (.int a1)), (2, .inl (.int a2))], [.inl (.ref (hr y1.2 q0 3)), .inl (.ref q0)], y1.2, 0, 0)))
      refine k_steps HG 1 (zB_iff.mpr (?_ : G m _ (21, [(3, .inl (.int y1.1)), (0, .inl (.ref q0)), (1, .inl (.int a1)), (2, .inl (.int a2))], [.inl (.int a1), .inl (.ref (hr y1.2 q0 3)), .inl (.ref q0)], y1.2, 0, 0)))
      refine k_aald HG rfl K1 t2 (fun _ => ⟨rfl, rfl⟩) (fun t3 => (?_ : G m _ (22, [(3, .inl (.int y1.1)), (0, .inl (.ref q0)), (1, .inl (.int a1)), (2, .inl (.int a2))], [.inl (.ref (hr y1.2 (hr y1.2 q0 3) a1.toNatClampNeg)), .inl (.ref q0)], y1.2, 0, 0)))
      refine k_steps HG 1 (zB_iff.mpr (?_ : G m _ (23, [(3, .inl (.int y1.1)), (0, .inl (.ref q0)), (1, .inl (.int a1)), (2, .inl (.int a2))], [.inl (.int a2), .inl (.ref (hr y1.2 (hr y1.2 q0 3) a1.toNatClampNeg)), .inl (.ref q0)], y1.2, 0, 0)))
      refine k_cVIHd HG (E' := ze_X5_wrongIn) (Or.inl ⟨rfl, rfl⟩) hsc rfl rfl rfl (kOK_wk (W := W_X5_judgeB) rfl K1) rfl (fun hh => x_X5_wrongInB hsc K1.1 hq_q0 t3 (kNul_of V_27 K1 hq_q0 rfl) hh hlen) (fun y4 K4 Q4 => ?_)
      have A4 := K4
      have K4 := kOK_refl (W := P_X5_judgeB) K4.1
      show G m _ (26, [(3, .inl (.int y1.1)), (0, .inl (.ref q0)), (1, .inl (.int a1)), (2, .inl (.int a2))], [.inl (.int y4.1)], y4.2, (0 + zEc ze_X5_wrongIn), (0 + zEs ze_X5_wrongIn))
      exact k_reti HG rfl rfl (fun e1 e2 => hR _ _ _ e1 e2 (kOK_trans A4 rfl K4))
    · show G m _ (11, [(3, .inl (.int y1.1)), (0, .inl (.ref q0)), (1, .inl (.int a1)), (2, .inl (.int a2))], [], y1.2, 0, 0)
      refine k_steps HG 2 (zB_iff.mpr (?_ : G m _ (26, [(3, .inl (.int y1.1)), (0, .inl (.ref q0)), (1, .inl (.int a1)), (2, .inl (.int a2))], [.inl (.int y1.1)], y1.2, 0, 0)))
      exact k_reti HG rfl rfl (fun e1 e2 => hR _ _ _ e1 e2 (kOK_wk rfl K1))
def W_X5_wonB : List (Nat × Nat) := [(5, 27), (5, 40), (6, 9), (6, 10), (6, 11), (6, 12), (6, 13), (6, 14), (6, 15), (6, 17), (6, 23), (30, 1000), (31, 1000), (32, 1000), (33, 1000), (34, 1000), (35, 1000), (36, 1000), (37, 1000), (39, 1000)]
def P_X5_wonB : List (Nat × Nat) := [(5, 40), (6, 9), (6, 10), (6, 11), (6, 12), (6, 13), (6, 14), (6, 15), (6, 17), (6, 23), (30, 1000), (31, 1000), (32, 1000), (33, 1000), (34, 1000), (35, 1000), (36, 1000), (37, 1000), (39, 1000)]
noncomputable def F_X5_wonB (h : zH) (q0 : Nat) (a1 : Int32) (a2 : Int32) : Int32 × zH := (letf (F_X5_noBook h q0 a1 a2) (fun y1 => (if y1.1 = (0 : Int32) then (letf (F_X5_wrongInB y1.2 q0 (hr y1.2 (hr y1.2 q0 3) a1.toNatClampNeg) a2) (fun y4 => (if y4.1 = (-1 : Int32) then ((hv y4.2 q0 40), y4.2) else (letf (F_X5_refuse y4.2 q0 (-5 : Int32)) (fun y5 => (y5.1, y5.2)))))) else (y1.1, y1.2))))
theorem x_X5_wonB {scr : List zV} {D : Nat} {T : List Nat} {h : zH} {q0 : Nat} {a1 : Int32} {a2 : Int32} (hsc : cT scr) (K : hOK kty T h) (hq_q0 : T[q0]? = some 5) (V_27 : hget h q0 27 = some (.inl .null)) (hh : cH h) (hlen : T.length ≤ 900000) : xIHe scr W_X5_wonB T  D 245 [.inl (.ref q0), .inl (.int a1), .inl (.int a2)] h (F_X5_wonB h q0 a1 a2) := by
  cases D with
  | zero => exact fun _ _ hx => absurd hx (fun q => xD_zero q)
  | succ D =>
    refine xIHe_intro (E := ze_X5_won) hsc rfl (cTb_ok rfl) hh (fun r h' G HG Pf hR m => ?_)
    have K := kOK_refl (W := P_X5_wonB) K
    unfold F_X5_wonB
    show G m _ (0, [(0, .inl (.ref q0)), (1, .inl (.int a1)), (2, .inl (.int a2))], [], h, 0, 0)
    refine k_steps HG 3 (zB_iff.mpr (?_ : G m _ (3, [(0, .inl (.ref q0)), (1, .inl (.int a1)), (2, .inl (.int a2))], [.inl (.int a2), .inl (.int a1), .inl (.ref q0)], h, 0, 0)))
    refine k_cVIH HG (E' := ze_X5_noBook) (Or.inl ⟨rfl, rfl⟩) hsc rfl rfl rfl rfl rfl K rfl (fun hh => x_X5_noBook hsc K.1 hq_q0 hh) (fun y1 K1 => (?_ : G m _ (6, [(0, .inl (.ref q0)), (1, .inl (.int a1)), (2, .inl (.int a2))], [.inl (.int y1.1)], y1.2, 0, 0)))
    refine k_steps HG 3 (kb_eq (x := y1.1) (y := (0 : Int32)) ?_ ?_)
    · show G m _ (13, [(3, .inl (.int y1.1)), (0, .inl (.ref q0)), (1, .inl (.int a1)), (2, .inl (.int a2))], [], y1.2, 0, 0)
      refine k_steps HG 2 (zB_iff.mpr (?_ : G m _ (15, [(3, .inl (.int y1.1)), (0, .inl (.ref q0)), (1, .inl (.int a1)), (2, .inl (.int a2))], [.inl (.ref q0), .inl (.ref q0)], y1.2, 0, 0)))
      refine k_getR HG rfl K1 hq_q0 rfl (Nat.le_of_ble_eq_true rfl) rfl rfl (fun t2 => (?_ : G m _ (18, [(3, .inl (.int y1.1)), (0, .inl (.ref q0)), (1, .inl (.int a1)), (2, .inl (.int a2))], [.inl (.ref (hr y1.2 q0 3)), .inl (.ref q0)], y1.2, 0, 0)))
      refine k_steps HG 1 (zB_iff.mpr (?_ : G m _ (19, [(3, .inl (.int y1.1)), (0, .inl (.ref q0)), (1, .inl (.int a1)), (2, .inl (.int a2))], [.inl (.int a1), .inl (.ref (hr y1.2 q0 3)), .inl (.ref q0)], y1.2, 0, 0)))
      refine k_aald HG rfl K1 t2 (fun _ => ⟨rfl, rfl⟩) (fun t3 => (?_ : G m _ (20, [(3, .inl (.int y1.1)), (0, .inl (.ref q0)), (1, .inl (.int a1)), (2, .inl (.int a2))], [.inl (.ref (hr y1.2 (hr y1.2 q0 3) a1.toNatClampNeg)), .inl (.ref q0)], y1.2, 0, 0)))
      refine k_steps HG 1 (zB_iff.mpr (?_ : G m _ (21, [(3, .inl (.int y1.1)), (0, .inl (.ref q0)), (1, .inl (.int a1)), (2, .inl (.int a2))], [.inl (.int a2), .inl (.ref (hr y1.2 (hr y1.2 q0 3) a1.toNatClampNeg)), .inl (.ref q0)], y1.2, 0, 0)))
      refine k_cVIHd HG (E' := ze_X5_wrongIn) (Or.inl ⟨rfl, rfl⟩) hsc rfl rfl rfl (kOK_wk (W := W_X5_wonB) rfl K1) rfl (fun hh => x_X5_wrongInB hsc K1.1 hq_q0 t3 (kNul_of V_27 K1 hq_q0 rfl) hh hlen) (fun y4 K4 Q4 => ?_)
      have A4 := K4
      have K4 := kOK_refl (W := P_X5_wonB) K4.1
      show G m _ (24, [(3, .inl (.int y1.1)), (0, .inl (.ref q0)), (1, .inl (.int a1)), (2, .inl (.int a2))], [.inl (.int y4.1)], y4.2, (0 + zEc ze_X5_wrongIn), (0 + zEs ze_X5_wrongIn))
      refine k_steps HG 2 (kb_eq (x := y4.1) (y := (-1 : Int32)) ?_ ?_)
      · show G m _ (37, [(3, .inl (.int y1.1)), (0, .inl (.ref q0)), (1, .inl (.int a1)), (2, .inl (.int a2))], [], y4.2, (0 + zEc ze_X5_wrongIn), (0 + zEs ze_X5_wrongIn))
        refine k_steps HG 1 (zB_iff.mpr (?_ : G m _ (38, [(3, .inl (.int y1.1)), (0, .inl (.ref q0)), (1, .inl (.int a1)), (2, .inl (.int a2))], [.inl (.ref q0)], y4.2, (0 + zEc ze_X5_wrongIn), (0 + zEs ze_X5_wrongIn))))
        refine k_getI HG rfl K4 (tExt_app _ _ _ _ hq_q0) rfl (Nat.le_of_ble_eq_true rfl) rfl (?_ : G m _ (41, [(3, .inl (.int y1.1)), (0, .inl (.ref q0)), (1, .inl (.int a1)), (2, .inl (.int a2))], [.inl (.int (hv y4.2 q0 40))], y4.2, (0 + zEc ze_X5_wrongIn), (0 + zEs ze_X5_wrongIn)))
        exact k_reti HG rfl rfl (fun e1 e2 => hR _ _ _ e1 e2 (kOK_trans A4 rfl K4))
      · show G m _ (28, [(3, .inl (.int y1.1)), (0, .inl (.ref q0)), (1, .inl (.int a1)), (2, .inl (.int a2))], [], y4.2, (0 + zEc ze_X5_wrongIn), (0 + zEs ze_X5_wrongIn))
        refine k_steps HG 2 (zB_iff.mpr (?_ : G m _ (31, [(3, .inl (.int y1.1)), (0, .inl (.ref q0)), (1, .inl (.int a1)), (2, .inl (.int a2))], [.inl (.int (-5 : Int32)), .inl (.ref q0)], y4.2, (0 + zEc ze_X5_wrongIn), (0 + zEs ze_X5_wrongIn))))
        refine k_cVIH HG (E' := ze_X5_refuse) (Or.inl ⟨rfl, rfl⟩) hsc rfl rfl rfl rfl rfl K4 rfl (fun hh => x_X5_refuse hsc K4.1 (tExt_app _ _ _ _ hq_q0) hh) (fun y5 K5 => (?_ : G m _ (34, [(3, .inl (.int y1.1)), (0, .inl (.ref q0)), (1, .inl (.int a1)), (2, .inl (.int a2))], [.inl (.int y5.1)], y5.2, (0 + zEc ze_X5_wrongIn), (0 + zEs ze_X5_wrongIn))))
        refine k_steps HG 1 (zB_iff.mpr (?_ : G m _ (41, [(3, .inl (.int y1.1)), (0, .inl (.ref q0)), (1, .inl (.int a1)), (2, .inl (.int a2))], [.inl (.int y5.1)], y5.2, (0 + zEc ze_X5_wrongIn), (0 + zEs ze_X5_wrongIn))))
        exact k_reti HG rfl rfl (fun e1 e2 => hR _ _ _ e1 e2 (kOK_trans A4 rfl K5))
    · show G m _ (11, [(3, .inl (.int y1.1)), (0, .inl (.ref q0)), (1, .inl (.int a1)), (2, .inl (.int a2))], [], y1.2, 0, 0)
      refine k_steps HG 1 (zB_iff.mpr (?_ : G m _ (12, [(3, .inl (.int y1.1)), (0, .inl (.ref q0)), (1, .inl (.int a1)), (2, .inl (.int a2))], [.inl (.int y1.1)], y1.2, 0, 0)))
      exact k_reti HG rfl rfl (fun e1 e2 => hR _ _ _ e1 e2 (kOK_wk rfl K1))
def W_X5_bookedB : List (Nat × Nat) := [(5, 13), (5, 14), (5, 27), (5, 40), (6, 9), (6, 10), (6, 11), (6, 12), (6, 13), (6, 14), (6, 15), (6, 17), (6, 23), (30, 1000), (31, 1000), (32, 1000), (33, 1000), (34, 1000), (35, 1000), (36, 1000), (37, 1000), (39, 1000)]
def P_X5_bookedB : List (Nat × Nat) := [(5, 13), (5, 14), (5, 40), (6, 9), (6, 10), (6, 11), (6, 12), (6, 13), (6, 14), (6, 15), (6, 17), (6, 23), (30, 1000), (31, 1000), (32, 1000), (33, 1000), (34, 1000), (35, 1000), (36, 1000), (37, 1000), (39, 1000)]
noncomputable def B_X5_bookedB_95 (c0 : Nat) (c1 : Int32) (c2 : Int32) (c3 : Int32) (c4 : Int32) (s : (Int32 × zH)) : (Int32 × zH) ⊕ (Int32 × zH) := (if s.1 < c2 then (letf (F_X5_comesOut s.2 c0 (Int64.toInt32 (hJ s.2 (hr s.2 (hr s.2 c0 3) c1.toNatClampNeg) s.1.toNatClampNeg)) c3) (fun y1006 => (Sum.inl ((s.1 + (1 : Int32)), y1006.2)))) else (letf (hput s.2 (hr s.2 c0 24) c3.toNatClampNeg (.inl (.int ((hv s.2 (hr s.2 c0 24) c3.toNatClampNeg) - (c2 * (hv s.2 c0 11)))))) (fun h1002 => (letf (hput h1002 c0 14 (.inl (.int ((hv h1002 c0 14) + (c2 * (hv h1002 c0 11)))))) (fun h1003 => (Sum.inr ((hv h1003 c0 40), h1003)))))))
noncomputable def F_X5_bookedB (h : zH) (q0 : Nat) (a1 : Int32) (a2 : Int32) (a3 : Int32) : Int32 × zH := (letf (F_X5_in (Int32.toInt64 a1) (0 : Int64) (7 : Int64)) (fun y1 => (if y1 = (0 : Int32) then (letf (F_X5_refuse h q0 (-2 : Int32)) (fun y2 => (y2.1, y2.2))) else (letf (F_X5_in (Int32.toInt64 a2) (0 : Int64) (40 : Int64)) (fun y3 => (if y3 = (0 : Int32) then (letf (F_X5_refuse h q0 (-2 : Int32)) (fun y4 => (y4.1, y4.2))) else (letf (F_X5_isBuyer h q0 a3) (fun y5 => (if y5 = (0 : Int32) then (letf (F_X5_refuse h q0 (-2 : Int32)) (fun y20 => (y20.1, y20.2))) else (letf (F_X5_noBook h q0 a1 a2) (fun y6 => (if y6.1 = (0 : Int32) then (letf (F_X5_wrongInB y6.2 q0 (hr y6.2 (hr y6.2 q0 3) a1.toNatClampNeg) a2) (fun y9 => (if y9.1 = (-1 : Int32) then (if (hv y9.2 (hr y9.2 q0 24) a3.toNatClampNeg) < (a2 * (hv y9.2 q0 11)) then (letf (F_X5_refuse y9.2 q0 (-5 : Int32)) (fun y19 => (y19.1, y19.2))) else (fx (B_X5_bookedB_95 q0 a1 a2 a3 y6.1) (0, []) ((0 : Int32), y9.2))) else (letf (F_X5_refuse y9.2 q0 (-5 : Int32)) (fun y10 => (y10.1, y10.2)))))) else (y6.1, y6.2)))))))))))))
theorem x_X5_bookedB {scr : List zV} {D : Nat} {T : List Nat} {h : zH} {q0 : Nat} {a1 : Int32} {a2 : Int32} {a3 : Int32} (hsc : cT scr) (K : hOK kty T h) (hq_q0 : T[q0]? = some 5) (V_27 : hget h q0 27 = some (.inl .null)) (hh : cH h) (hlen : T.length ≤ 900000) : xIHe scr W_X5_bookedB T  D 162 [.inl (.ref q0), .inl (.int a1), .inl (.int a2), .inl (.int a3)] h (F_X5_bookedB h q0 a1 a2 a3) := by
  cases D with
  | zero => exact fun _ _ hx => absurd hx (fun q => xD_zero q)
  | succ D =>
    refine xIHe_intro (E := ze_X5_booked) hsc rfl (cTb_ok rfl) hh (fun r h' G HG Pf hR m => ?_)
    have K := kOK_refl (W := P_X5_bookedB) K
    unfold F_X5_bookedB
    show G m _ (0, [(0, .inl (.ref q0)), (1, .inl (.int a1)), (2, .inl (.int a2)), (3, .inl (.int a3))], [], h, 0, 0)
    refine k_steps HG 4 (zB_iff.mpr (?_ : G m _ (6, [(0, .inl (.ref q0)), (1, .inl (.int a1)), (2, .inl (.int a2)), (3, .inl (.int a3))], [.inl (.long (7 : Int64)), .inl (.long (0 : Int64)), .inl (.long (Int32.toInt64 a1))], h, 0, 0)))
    refine k_cSI HG (E' := ze_X5_in) (Or.inl rfl) hsc rfl rfl rfl rfl (fun hh => x_X5_in hsc hh) (fun y1 => (?_ : G m _ (9, [(0, .inl (.ref q0)), (1, .inl (.int a1)), (2, .inl (.int a2)), (3, .inl (.int a3))], [.inl (.int y1)], h, 0, 0)))
    refine k_steps HG 1 (kb_eq (x := y1) (y := (0 : Int32)) ?_ ?_)
    · show G m _ (32, [(0, .inl (.ref q0)), (1, .inl (.int a1)), (2, .inl (.int a2)), (3, .inl (.int a3))], [], h, 0, 0)
      refine k_steps HG 2 (zB_iff.mpr (?_ : G m _ (35, [(0, .inl (.ref q0)), (1, .inl (.int a1)), (2, .inl (.int a2)), (3, .inl (.int a3))], [.inl (.int (-2 : Int32)), .inl (.ref q0)], h, 0, 0)))
      refine k_cVIH HG (E' := ze_X5_refuse) (Or.inl ⟨rfl, rfl⟩) hsc rfl rfl rfl rfl rfl K rfl (fun hh => x_X5_refuse hsc K.1 hq_q0 hh) (fun y2 K2 => (?_ : G m _ (38, [(0, .inl (.ref q0)), (1, .inl (.int a1)), (2, .inl (.int a2)), (3, .inl (.int a3))], [.inl (.int y2.1)], y2.2, 0, 0)))
      exact k_reti HG rfl rfl (fun e1 e2 => hR _ _ _ e1 e2 (kOK_wk rfl K2))
    · show G m _ (12, [(0, .inl (.ref q0)), (1, .inl (.int a1)), (2, .inl (.int a2)), (3, .inl (.int a3))], [], h, 0, 0)
      refine k_steps HG 4 (zB_iff.mpr (?_ : G m _ (18, [(0, .inl (.ref q0)), (1, .inl (.int a1)), (2, .inl (.int a2)), (3, .inl (.int a3))], [.inl (.long (40 : Int64)), .inl (.long (0 : Int64)), .inl (.long (Int32.toInt64 a2))], h, 0, 0)))
      refine k_cSI HG (E' := ze_X5_in) (Or.inl rfl) hsc rfl rfl rfl rfl (fun hh => x_X5_in hsc hh) (fun y3 => (?_ : G m _ (21, [(0, .inl (.ref q0)), (1, .inl (.int a1)), (2, .inl (.int a2)), (3, .inl (.int a3))], [.inl (.int y3)], h, 0, 0)))
      refine k_steps HG 1 (kb_eq (x := y3) (y := (0 : Int32)) ?_ ?_)
      · show G m _ (32, [(0, .inl (.ref q0)), (1, .inl (.int a1)), (2, .inl (.int a2)), (3, .inl (.int a3))], [], h, 0, 0)
        refine k_steps HG 2 (zB_iff.mpr (?_ : G m _ (35, [(0, .inl (.ref q0)), (1, .inl (.int a1)), (2, .inl (.int a2)), (3, .inl (.int a3))], [.inl (.int (-2 : Int32)), .inl (.ref q0)], h, 0, 0)))
        refine k_cVIH HG (E' := ze_X5_refuse) (Or.inl ⟨rfl, rfl⟩) hsc rfl rfl rfl rfl rfl K rfl (fun hh => x_X5_refuse hsc K.1 hq_q0 hh) (fun y4 K4 => (?_ : G m _ (38, [(0, .inl (.ref q0)), (1, .inl (.int a1)), (2, .inl (.int a2)), (3, .inl (.int a3))], [.inl (.int y4.1)], y4.2, 0, 0)))
        exact k_reti HG rfl rfl (fun e1 e2 => hR _ _ _ e1 e2 (kOK_wk rfl K4))
      · show G m _ (24, [(0, .inl (.ref q0)), (1, .inl (.int a1)), (2, .inl (.int a2)), (3, .inl (.int a3))], [], h, 0, 0)
        refine k_steps HG 2 (zB_iff.mpr (?_ : G m _ (26, [(0, .inl (.ref q0)), (1, .inl (.int a1)), (2, .inl (.int a2)), (3, .inl (.int a3))], [.inl (.int a3), .inl (.ref q0)], h, 0, 0)))
        refine k_cVI HG (E' := ze_X5_isBuyer) (Or.inl ⟨rfl, rfl⟩) hsc rfl rfl rfl rfl rfl (fun hh => x_X5_isBuyer hsc K.1 hq_q0 hh) (fun y5 => (?_ : G m _ (29, [(0, .inl (.ref q0)), (1, .inl (.int a1)), (2, .inl (.int a2)), (3, .inl (.int a3))], [.inl (.int y5)], h, 0, 0)))
        refine k_steps HG 1 (kb_ne (x := y5) (y := (0 : Int32)) ?_ ?_)
        · show G m _ (39, [(0, .inl (.ref q0)), (1, .inl (.int a1)), (2, .inl (.int a2)), (3, .inl (.int a3))], [], h, 0, 0)
          refine k_steps HG 3 (zB_iff.mpr (?_ : G m _ (42, [(0, .inl (.ref q0)), (1, .inl (.int a1)), (2, .inl (.int a2)), (3, .inl (.int a3))], [.inl (.int a2), .inl (.int a1), .inl (.ref q0)], h, 0, 0)))
          refine k_cVIH HG (E' := ze_X5_noBook) (Or.inl ⟨rfl, rfl⟩) hsc rfl rfl rfl rfl rfl K rfl (fun hh => x_X5_noBook hsc K.1 hq_q0 hh) (fun y6 K6 => (?_ : G m _ (45, [(0, .inl (.ref q0)), (1, .inl (.int a1)), (2, .inl (.int a2)), (3, .inl (.int a3))], [.inl (.int y6.1)], y6.2, 0, 0)))
          refine k_steps HG 3 (kb_eq (x := y6.1) (y := (0 : Int32)) ?_ ?_)
          · show G m _ (55, [(4, .inl (.int y6.1)), (0, .inl (.ref q0)), (1, .inl (.int a1)), (2, .inl (.int a2)), (3, .inl (.int a3))], [], y6.2, 0, 0)
            refine k_steps HG 2 (zB_iff.mpr (?_ : G m _ (57, [(4, .inl (.int y6.1)), (0, .inl (.ref q0)), (1, .inl (.int a1)), (2, .inl (.int a2)), (3, .inl (.int a3))], [.inl (.ref q0), .inl (.ref q0)], y6.2, 0, 0)))
            refine k_getR HG rfl K6 hq_q0 rfl (Nat.le_of_ble_eq_true rfl) rfl rfl (fun t7 => (?_ : G m _ (60, [(4, .inl (.int y6.1)), (0, .inl (.ref q0)), (1, .inl (.int a1)), (2, .inl (.int a2)), (3, .inl (.int a3))], [.inl (.ref (hr y6.2 q0 3)), .inl (.ref q0)], y6.2, 0, 0)))
            refine k_steps HG 1 (zB_iff.mpr (?_ : G m _ (61, [(4, .inl (.int y6.1)), (0, .inl (.ref q0)), (1, .inl (.int a1)), (2, .inl (.int a2)), (3, .inl (.int a3))], [.inl (.int a1), .inl (.ref (hr y6.2 q0 3)), .inl (.ref q0)], y6.2, 0, 0)))
            refine k_aald HG rfl K6 t7 (fun _ => ⟨rfl, rfl⟩) (fun t8 => (?_ : G m _ (62, [(4, .inl (.int y6.1)), (0, .inl (.ref q0)), (1, .inl (.int a1)), (2, .inl (.int a2)), (3, .inl (.int a3))], [.inl (.ref (hr y6.2 (hr y6.2 q0 3) a1.toNatClampNeg)), .inl (.ref q0)], y6.2, 0, 0)))
            refine k_steps HG 1 (zB_iff.mpr (?_ : G m _ (63, [(4, .inl (.int y6.1)), (0, .inl (.ref q0)), (1, .inl (.int a1)), (2, .inl (.int a2)), (3, .inl (.int a3))], [.inl (.int a2), .inl (.ref (hr y6.2 (hr y6.2 q0 3) a1.toNatClampNeg)), .inl (.ref q0)], y6.2, 0, 0)))
            refine k_cVIHd HG (E' := ze_X5_wrongIn) (Or.inl ⟨rfl, rfl⟩) hsc rfl rfl rfl (kOK_wk (W := W_X5_bookedB) rfl K6) rfl (fun hh => x_X5_wrongInB hsc K6.1 hq_q0 t8 (kNul_of V_27 K6 hq_q0 rfl) hh hlen) (fun y9 K9 Q9 => ?_)
            have A9 := K9
            have K9 := kOK_refl (W := P_X5_bookedB) K9.1
            show G m _ (66, [(4, .inl (.int y6.1)), (0, .inl (.ref q0)), (1, .inl (.int a1)), (2, .inl (.int a2)), (3, .inl (.int a3))], [.inl (.int y9.1)], y9.2, (0 + zEc ze_X5_wrongIn), (0 + zEs ze_X5_wrongIn))
            refine k_steps HG 2 (kb_ne (x := y9.1) (y := (-1 : Int32)) ?_ ?_)
            · show G m _ (85, [(4, .inl (.int y6.1)), (0, .inl (.ref q0)), (1, .inl (.int a1)), (2, .inl (.int a2)), (3, .inl (.int a3))], [], y9.2, (0 + zEc ze_X5_wrongIn), (0 + zEs ze_X5_wrongIn))
              refine k_steps HG 2 (zB_iff.mpr (?_ : G m _ (88, [(4, .inl (.int y6.1)), (0, .inl (.ref q0)), (1, .inl (.int a1)), (2, .inl (.int a2)), (3, .inl (.int a3))], [.inl (.int (-5 : Int32)), .inl (.ref q0)], y9.2, (0 + zEc ze_X5_wrongIn), (0 + zEs ze_X5_wrongIn))))
              refine k_cVIH HG (E' := ze_X5_refuse) (Or.inl ⟨rfl, rfl⟩) hsc rfl rfl rfl rfl rfl K9 rfl (fun hh => x_X5_refuse hsc K9.1 (tExt_app _ _ _ _ hq_q0) hh) (fun y10 K10 => (?_ : G m _ (91, [(4, .inl (.int y6.1)), (0, .inl (.ref q0)), (1, .inl (.int a1)), (2, .inl (.int a2)), (3, .inl (.int a3))], [.inl (.int y10.1)], y10.2, (0 + zEc ze_X5_wrongIn), (0 + zEs ze_X5_wrongIn))))
              exact k_reti HG rfl rfl (fun e1 e2 => hR _ _ _ e1 e2 (kOK_trans A9 rfl K10))
            · show G m _ (70, [(4, .inl (.int y6.1)), (0, .inl (.ref q0)), (1, .inl (.int a1)), (2, .inl (.int a2)), (3, .inl (.int a3))], [], y9.2, (0 + zEc ze_X5_wrongIn), (0 + zEs ze_X5_wrongIn))
              refine k_steps HG 1 (zB_iff.mpr (?_ : G m _ (71, [(4, .inl (.int y6.1)), (0, .inl (.ref q0)), (1, .inl (.int a1)), (2, .inl (.int a2)), (3, .inl (.int a3))], [.inl (.ref q0)], y9.2, (0 + zEc ze_X5_wrongIn), (0 + zEs ze_X5_wrongIn))))
              refine k_getR HG rfl K9 (tExt_app _ _ _ _ hq_q0) rfl (Nat.le_of_ble_eq_true rfl) rfl rfl (fun t11 => (?_ : G m _ (74, [(4, .inl (.int y6.1)), (0, .inl (.ref q0)), (1, .inl (.int a1)), (2, .inl (.int a2)), (3, .inl (.int a3))], [.inl (.ref (hr y9.2 q0 24))], y9.2, (0 + zEc ze_X5_wrongIn), (0 + zEs ze_X5_wrongIn))))
              refine k_steps HG 1 (zB_iff.mpr (?_ : G m _ (75, [(4, .inl (.int y6.1)), (0, .inl (.ref q0)), (1, .inl (.int a1)), (2, .inl (.int a2)), (3, .inl (.int a3))], [.inl (.int a3), .inl (.ref (hr y9.2 q0 24))], y9.2, (0 + zEc ze_X5_wrongIn), (0 + zEs ze_X5_wrongIn))))
              refine k_iald HG rfl K9 t11 rfl (fun _ => rfl) (?_ : G m _ (76, [(4, .inl (.int y6.1)), (0, .inl (.ref q0)), (1, .inl (.int a1)), (2, .inl (.int a2)), (3, .inl (.int a3))], [.inl (.int (hv y9.2 (hr y9.2 q0 24) a3.toNatClampNeg))], y9.2, (0 + zEc ze_X5_wrongIn), (0 + zEs ze_X5_wrongIn)))
              refine k_steps HG 2 (zB_iff.mpr (?_ : G m _ (78, [(4, .inl (.int y6.1)), (0, .inl (.ref q0)), (1, .inl (.int a1)), (2, .inl (.int a2)), (3, .inl (.int a3))], [.inl (.ref q0), .inl (.int a2), .inl (.int (hv y9.2 (hr y9.2 q0 24) a3.toNatClampNeg))], y9.2, (0 + zEc ze_X5_wrongIn), (0 + zEs ze_X5_wrongIn))))
              refine k_getI HG rfl K9 (tExt_app _ _ _ _ hq_q0) rfl (Nat.le_of_ble_eq_true rfl) rfl (?_ : G m _ (81, [(4, .inl (.int y6.1)), (0, .inl (.ref q0)), (1, .inl (.int a1)), (2, .inl (.int a2)), (3, .inl (.int a3))], [.inl (.int (hv y9.2 q0 11)), .inl (.int a2), .inl (.int (hv y9.2 (hr y9.2 q0 24) a3.toNatClampNeg))], y9.2, (0 + zEc ze_X5_wrongIn), (0 + zEs ze_X5_wrongIn)))
              refine k_steps HG 2 (kb_ge (x := (hv y9.2 (hr y9.2 q0 24) a3.toNatClampNeg)) (y := (a2 * (hv y9.2 q0 11))) ?_ ?_)
              · show G m _ (92, [(4, .inl (.int y6.1)), (0, .inl (.ref q0)), (1, .inl (.int a1)), (2, .inl (.int a2)), (3, .inl (.int a3))], [], y9.2, (0 + zEc ze_X5_wrongIn), (0 + zEs ze_X5_wrongIn))
                refine k_steps HG 2 (zB_iff.mpr (?_ : G m _ (95, [(5, .inl (.int (0 : Int32))), (4, .inl (.int y6.1)), (0, .inl (.ref q0)), (1, .inl (.int a1)), (2, .inl (.int a2)), (3, .inl (.int a3))], [], y9.2, (0 + zEc ze_X5_wrongIn), (0 + zEs ze_X5_wrongIn))))
                have lp12 : ∀ m12, m12 ≤ m → ∀ (nc12 : Nat) (ns12 : Nat) (v12_5 : Int32) (h12 : zH), kOK P_X5_bookedB (T ++ iTys) (T ++ iTys) y9.2 h12 → G m12 (Pf (fx (B_X5_bookedB_95 q0 a1 a2 a3 y6.1) (0, []) (v12_5, h12))) (95, [(0, .inl (.ref q0)), (1, .inl (.int a1)), (2, .inl (.int a2)), (3, .inl (.int a3)), (4, .inl (.int y6.1)), (5, .inl (.int v12_5))], [], h12, nc12, ns12) := by
                  intro m12
                  induction m12 with
                  | zero =>
                    intros
                    exact k_zero HG
                  | succ m12 ih12 =>
                    intro le12 nc12 ns12 v12_5 h12 K12
                    have le12 := Nat.le_of_succ_le le12
                    have ih12 := ih12 le12
                    refine k_fx ?_
                    rw [B_X5_bookedB_95]
                    refine k_first HG 2 (kb_ge (x := v12_5) (y := a2) ?_ ?_)
                    · show G m12 _ (123, [(0, .inl (.ref q0)), (1, .inl (.int a1)), (2, .inl (.int a2)), (3, .inl (.int a3)), (4, .inl (.int y6.1)), (5, .inl (.int v12_5))], [], h12, nc12, ns12)
                      refine k_steps HG 1 (zB_iff.mpr (?_ : G m12 _ (124, [(0, .inl (.ref q0)), (1, .inl (.int a1)), (2, .inl (.int a2)), (3, .inl (.int a3)), (4, .inl (.int y6.1)), (5, .inl (.int v12_5))], [.inl (.ref q0)], h12, nc12, ns12)))
                      refine k_getR HG rfl K12 (tExt_app _ _ _ _ hq_q0) rfl (Nat.le_of_ble_eq_true rfl) rfl rfl (fun t13 => (?_ : G m12 _ (127, [(0, .inl (.ref q0)), (1, .inl (.int a1)), (2, .inl (.int a2)), (3, .inl (.int a3)), (4, .inl (.int y6.1)), (5, .inl (.int v12_5))], [.inl (.ref (hr h12 q0 24))], h12, nc12, ns12)))
                      refine k_steps HG 2 (zB_iff.mpr (?_ : G m12 _ (129, [(0, .inl (.ref q0)), (1, .inl (.int a1)), (2, .inl (.int a2)), (3, .inl (.int a3)), (4, .inl (.int y6.1)), (5, .inl (.int v12_5))], [.inl (.int a3), .inl (.ref (hr h12 q0 24)), .inl (.int a3), .inl (.ref (hr h12 q0 24))], h12, nc12, ns12)))
                      refine k_iald HG rfl K12 t13 rfl (fun _ => rfl) (?_ : G m12 _ (130, [(0, .inl (.ref q0)), (1, .inl (.int a1)), (2, .inl (.int a2)), (3, .inl (.int a3)), (4, .inl (.int y6.1)), (5, .inl (.int v12_5))], [.inl (.int (hv h12 (hr h12 q0 24) a3.toNatClampNeg)), .inl (.int a3), .inl (.ref (hr h12 q0 24))], h12, nc12, ns12))
                      refine k_steps HG 2 (zB_iff.mpr (?_ : G m12 _ (132, [(0, .inl (.ref q0)), (1, .inl (.int a1)), (2, .inl (.int a2)), (3, .inl (.int a3)), (4, .inl (.int y6.1)), (5, .inl (.int v12_5))], [.inl (.ref q0), .inl (.int a2), .inl (.int (hv h12 (hr h12 q0 24) a3.toNatClampNeg)), .inl (.int a3), .inl (.ref (hr h12 q0 24))], h12, nc12, ns12)))
                      refine k_getI HG rfl K12 (tExt_app _ _ _ _ hq_q0) rfl (Nat.le_of_ble_eq_true rfl) rfl (?_ : G m12 _ (135, [(0, .inl (.ref q0)), (1, .inl (.int a1)), (2, .inl (.int a2)), (3, .inl (.int a3)), (4, .inl (.int y6.1)), (5, .inl (.int v12_5))], [.inl (.int (hv h12 q0 11)), .inl (.int a2), .inl (.int (hv h12 (hr h12 q0 24) a3.toNatClampNeg)), .inl (.int a3), .inl (.ref (hr h12 q0 24))], h12, nc12, ns12))
                      refine k_steps HG 2 (zB_iff.mpr (?_ : G m12 _ (137, [(0, .inl (.ref q0)), (1, .inl (.int a1)), (2, .inl (.int a2)), (3, .inl (.int a3)), (4, .inl (.int y6.1)), (5, .inl (.int v12_5))], [.inl (.int ((hv h12 (hr h12 q0 24) a3.toNatClampNeg) - (a2 * (hv h12 q0 11)))), .inl (.int a3), .inl (.ref (hr h12 q0 24))], h12, nc12, ns12)))
                      refine k_iast HG rfl K12 t13 rfl (fun _ => rfl) rfl (fun h14 K14 => (?_ : G m12 _ (138, [(0, .inl (.ref q0)), (1, .inl (.int a1)), (2, .inl (.int a2)), (3, .inl (.int a3)), (4, .inl (.int y6.1)), (5, .inl (.int v12_5))], [], h14, nc12, ns12)))
                      refine k_steps HG 2 (zB_iff.mpr (?_ : G m12 _ (140, [(0, .inl (.ref q0)), (1, .inl (.int a1)), (2, .inl (.int a2)), (3, .inl (.int a3)), (4, .inl (.int y6.1)), (5, .inl (.int v12_5))], [.inl (.ref q0), .inl (.ref q0)], h14, nc12, ns12)))
                      refine k_getI HG rfl K14 (tExt_app _ _ _ _ hq_q0) rfl (Nat.le_of_ble_eq_true rfl) rfl (?_ : G m12 _ (143, [(0, .inl (.ref q0)), (1, .inl (.int a1)), (2, .inl (.int a2)), (3, .inl (.int a3)), (4, .inl (.int y6.1)), (5, .inl (.int v12_5))], [.inl (.int (hv h14 q0 14)), .inl (.ref q0)], h14, nc12, ns12))
                      refine k_steps HG 2 (zB_iff.mpr (?_ : G m12 _ (145, [(0, .inl (.ref q0)), (1, .inl (.int a1)), (2, .inl (.int a2)), (3, .inl (.int a3)), (4, .inl (.int y6.1)), (5, .inl (.int v12_5))], [.inl (.ref q0), .inl (.int a2), .inl (.int (hv h14 q0 14)), .inl (.ref q0)], h14, nc12, ns12)))
                      refine k_getI HG rfl K14 (tExt_app _ _ _ _ hq_q0) rfl (Nat.le_of_ble_eq_true rfl) rfl (?_ : G m12 _ (148, [(0, .inl (.ref q0)), (1, .inl (.int a1)), (2, .inl (.int a2)), (3, .inl (.int a3)), (4, .inl (.int y6.1)), (5, .inl (.int v12_5))], [.inl (.int (hv h14 q0 11)), .inl (.int a2), .inl (.int (hv h14 q0 14)), .inl (.ref q0)], h14, nc12, ns12))
                      refine k_steps HG 2 (zB_iff.mpr (?_ : G m12 _ (150, [(0, .inl (.ref q0)), (1, .inl (.int a1)), (2, .inl (.int a2)), (3, .inl (.int a3)), (4, .inl (.int y6.1)), (5, .inl (.int v12_5))], [.inl (.int ((hv h14 q0 14) + (a2 * (hv h14 q0 11)))), .inl (.ref q0)], h14, nc12, ns12)))
                      refine k_putI HG rfl K14 (tExt_app _ _ _ _ hq_q0) rfl rfl rfl (fun h15 K15 => (?_ : G m12 _ (153, [(0, .inl (.ref q0)), (1, .inl (.int a1)), (2, .inl (.int a2)), (3, .inl (.int a3)), (4, .inl (.int y6.1)), (5, .inl (.int v12_5))], [], h15, nc12, ns12)))
                      refine k_steps HG 1 (zB_iff.mpr (?_ : G m12 _ (154, [(0, .inl (.ref q0)), (1, .inl (.int a1)), (2, .inl (.int a2)), (3, .inl (.int a3)), (4, .inl (.int y6.1)), (5, .inl (.int v12_5))], [.inl (.ref q0)], h15, nc12, ns12)))
                      refine k_getI HG rfl K15 (tExt_app _ _ _ _ hq_q0) rfl (Nat.le_of_ble_eq_true rfl) rfl (?_ : G m12 _ (157, [(0, .inl (.ref q0)), (1, .inl (.int a1)), (2, .inl (.int a2)), (3, .inl (.int a3)), (4, .inl (.int y6.1)), (5, .inl (.int v12_5))], [.inl (.int (hv h15 q0 40))], h15, nc12, ns12))
                      exact k_reti HG rfl rfl (fun e1 e2 => hR _ _ _ e1 e2 (kOK_trans A9 rfl K15))
                    · show G m12 _ (101, [(0, .inl (.ref q0)), (1, .inl (.int a1)), (2, .inl (.int a2)), (3, .inl (.int a3)), (4, .inl (.int y6.1)), (5, .inl (.int v12_5))], [], h12, nc12, ns12)
                      refine k_steps HG 2 (zB_iff.mpr (?_ : G m12 _ (103, [(0, .inl (.ref q0)), (1, .inl (.int a1)), (2, .inl (.int a2)), (3, .inl (.int a3)), (4, .inl (.int y6.1)), (5, .inl (.int v12_5))], [.inl (.ref q0), .inl (.ref q0)], h12, nc12, ns12)))
                      refine k_getR HG rfl K12 (tExt_app _ _ _ _ hq_q0) rfl (Nat.le_of_ble_eq_true rfl) rfl rfl (fun t16 => (?_ : G m12 _ (106, [(0, .inl (.ref q0)), (1, .inl (.int a1)), (2, .inl (.int a2)), (3, .inl (.int a3)), (4, .inl (.int y6.1)), (5, .inl (.int v12_5))], [.inl (.ref (hr h12 q0 3)), .inl (.ref q0)], h12, nc12, ns12)))
                      refine k_steps HG 1 (zB_iff.mpr (?_ : G m12 _ (107, [(0, .inl (.ref q0)), (1, .inl (.int a1)), (2, .inl (.int a2)), (3, .inl (.int a3)), (4, .inl (.int y6.1)), (5, .inl (.int v12_5))], [.inl (.int a1), .inl (.ref (hr h12 q0 3)), .inl (.ref q0)], h12, nc12, ns12)))
                      refine k_aald HG rfl K12 t16 (fun _ => ⟨rfl, rfl⟩) (fun t17 => (?_ : G m12 _ (108, [(0, .inl (.ref q0)), (1, .inl (.int a1)), (2, .inl (.int a2)), (3, .inl (.int a3)), (4, .inl (.int y6.1)), (5, .inl (.int v12_5))], [.inl (.ref (hr h12 (hr h12 q0 3) a1.toNatClampNeg)), .inl (.ref q0)], h12, nc12, ns12)))
                      refine k_steps HG 1 (zB_iff.mpr (?_ : G m12 _ (110, [(0, .inl (.ref q0)), (1, .inl (.int a1)), (2, .inl (.int a2)), (3, .inl (.int a3)), (4, .inl (.int y6.1)), (5, .inl (.int v12_5))], [.inl (.int v12_5), .inl (.ref (hr h12 (hr h12 q0 3) a1.toNatClampNeg)), .inl (.ref q0)], h12, nc12, ns12)))
                      refine k_lald HG rfl K12 t17 rfl (fun _ => rfl) (?_ : G m12 _ (111, [(0, .inl (.ref q0)), (1, .inl (.int a1)), (2, .inl (.int a2)), (3, .inl (.int a3)), (4, .inl (.int y6.1)), (5, .inl (.int v12_5))], [.inl (.long (hJ h12 (hr h12 (hr h12 q0 3) a1.toNatClampNeg) v12_5.toNatClampNeg)), .inl (.ref q0)], h12, nc12, ns12))
                      refine k_steps HG 2 (zB_iff.mpr (?_ : G m12 _ (113, [(0, .inl (.ref q0)), (1, .inl (.int a1)), (2, .inl (.int a2)), (3, .inl (.int a3)), (4, .inl (.int y6.1)), (5, .inl (.int v12_5))], [.inl (.int a3), .inl (.int (Int64.toInt32 (hJ h12 (hr h12 (hr h12 q0 3) a1.toNatClampNeg) v12_5.toNatClampNeg))), .inl (.ref q0)], h12, nc12, ns12)))
                      refine k_cVIH HG (E' := ze_X5_comesOut) (Or.inl ⟨rfl, rfl⟩) hsc rfl rfl rfl rfl rfl K12 rfl (fun hh => x_X5_comesOut hsc K12.1 (tExt_app _ _ _ _ hq_q0) hh) (fun y18 K18 => (?_ : G m12 _ (116, [(0, .inl (.ref q0)), (1, .inl (.int a1)), (2, .inl (.int a2)), (3, .inl (.int a3)), (4, .inl (.int y6.1)), (5, .inl (.int v12_5))], [.inl (.int y18.1)], y18.2, nc12, ns12)))
                      refine k_steps HG 3 (zB_iff.mpr (?_ : G m12 _ (95, [(5, .inl (.int (v12_5 + (1 : Int32)))), (0, .inl (.ref q0)), (1, .inl (.int a1)), (2, .inl (.int a2)), (3, .inl (.int a3)), (4, .inl (.int y6.1))], [], y18.2, nc12, ns12)))
                      refine k_ext HG (L' := [(0, .inl (.ref q0)), (1, .inl (.int a1)), (2, .inl (.int a2)), (3, .inl (.int a3)), (4, .inl (.int y6.1)), (5, .inl (.int (v12_5 + (1 : Int32))))]) rfl rfl ⟨rfl, rfl, rfl, rfl, rfl, rfl, trivial⟩ ?_
                      exact ih12 _ _ _ _ K18
                refine k_ext HG (L' := [(0, .inl (.ref q0)), (1, .inl (.int a1)), (2, .inl (.int a2)), (3, .inl (.int a3)), (4, .inl (.int y6.1)), (5, .inl (.int (0 : Int32)))]) rfl rfl ⟨rfl, rfl, rfl, rfl, rfl, rfl, trivial⟩ ?_
                exact lp12 m (Nat.le_refl _) _ _ _ _ K9
              · show G m _ (85, [(4, .inl (.int y6.1)), (0, .inl (.ref q0)), (1, .inl (.int a1)), (2, .inl (.int a2)), (3, .inl (.int a3))], [], y9.2, (0 + zEc ze_X5_wrongIn), (0 + zEs ze_X5_wrongIn))
                refine k_steps HG 2 (zB_iff.mpr (?_ : G m _ (88, [(4, .inl (.int y6.1)), (0, .inl (.ref q0)), (1, .inl (.int a1)), (2, .inl (.int a2)), (3, .inl (.int a3))], [.inl (.int (-5 : Int32)), .inl (.ref q0)], y9.2, (0 + zEc ze_X5_wrongIn), (0 + zEs ze_X5_wrongIn))))
                refine k_cVIH HG (E' := ze_X5_refuse) (Or.inl ⟨rfl, rfl⟩) hsc rfl rfl rfl rfl rfl K9 rfl (fun hh => x_X5_refuse hsc K9.1 (tExt_app _ _ _ _ hq_q0) hh) (fun y19 K19 => (?_ : G m _ (91, [(4, .inl (.int y6.1)), (0, .inl (.ref q0)), (1, .inl (.int a1)), (2, .inl (.int a2)), (3, .inl (.int a3))], [.inl (.int y19.1)], y19.2, (0 + zEc ze_X5_wrongIn), (0 + zEs ze_X5_wrongIn))))
                exact k_reti HG rfl rfl (fun e1 e2 => hR _ _ _ e1 e2 (kOK_trans A9 rfl K19))
          · show G m _ (52, [(4, .inl (.int y6.1)), (0, .inl (.ref q0)), (1, .inl (.int a1)), (2, .inl (.int a2)), (3, .inl (.int a3))], [], y6.2, 0, 0)
            refine k_steps HG 1 (zB_iff.mpr (?_ : G m _ (54, [(4, .inl (.int y6.1)), (0, .inl (.ref q0)), (1, .inl (.int a1)), (2, .inl (.int a2)), (3, .inl (.int a3))], [.inl (.int y6.1)], y6.2, 0, 0)))
            exact k_reti HG rfl rfl (fun e1 e2 => hR _ _ _ e1 e2 (kOK_wk rfl K6))
        · show G m _ (32, [(0, .inl (.ref q0)), (1, .inl (.int a1)), (2, .inl (.int a2)), (3, .inl (.int a3))], [], h, 0, 0)
          refine k_steps HG 2 (zB_iff.mpr (?_ : G m _ (35, [(0, .inl (.ref q0)), (1, .inl (.int a1)), (2, .inl (.int a2)), (3, .inl (.int a3))], [.inl (.int (-2 : Int32)), .inl (.ref q0)], h, 0, 0)))
          refine k_cVIH HG (E' := ze_X5_refuse) (Or.inl ⟨rfl, rfl⟩) hsc rfl rfl rfl rfl rfl K rfl (fun hh => x_X5_refuse hsc K.1 hq_q0 hh) (fun y20 K20 => (?_ : G m _ (38, [(0, .inl (.ref q0)), (1, .inl (.int a1)), (2, .inl (.int a2)), (3, .inl (.int a3))], [.inl (.int y20.1)], y20.2, 0, 0)))
          exact k_reti HG rfl rfl (fun e1 e2 => hR _ _ _ e1 e2 (kOK_wk rfl K20))
def W_X5_backA : List (Nat × Nat) := [(5, 9), (5, 10), (5, 11), (5, 12), (5, 13), (5, 14), (5, 15), (5, 17), (5, 23), (24, 1000), (31, 1000), (32, 1000), (33, 1000), (34, 1000), (35, 1000), (36, 1000), (37, 1000), (39, 1000)]
noncomputable def B_X5_backA_24 (c0 : Nat) (s : (Int32 × zH)) : (Int32 × zH) ⊕ (Int32 × zH) := (if s.1 < (8 : Int32) then (if (hv s.2 (hr s.2 c0 0) s.1.toNatClampNeg) = (2 : Int32) then (if (hv s.2 (hr s.2 c0 5) s.1.toNatClampNeg) < (hv s.2 c0 17) then (Sum.inl ((s.1 + (1 : Int32)), s.2)) else (letf (hput s.2 (hr s.2 c0 0) s.1.toNatClampNeg (.inl (.int (0 : Int32)))) (fun h1004 => (Sum.inl ((s.1 + (1 : Int32)), h1004))))) else (Sum.inl ((s.1 + (1 : Int32)), s.2))) else (Sum.inr ((1 : Int32), s.2)))
noncomputable def F_X5_backA (h : zH) (q0 : Nat) : Int32 × zH := (letf (F_X5_takeFrom_56 h q0 (hr h q0 26)) (fun h3 => (fx (B_X5_backA_24 q0) (0, []) ((0 : Int32), h3))))
theorem x_X5_backA {scr : List zV} {D : Nat} {T : List Nat} {h : zH} {q0 : Nat} (hsc : cT scr) (K : hOK kty T h) (hq_q0 : T[q0]? = some 5) (V_26 : kN T h q0 26 6) (hh : cH h) : xIHd scr W_X5_backA T T (fun _ => True) D 156 [.inl (.ref q0)] h (F_X5_backA h q0) := by
  cases D with
  | zero => exact fun _ _ hx => absurd hx (fun q => xD_zero q)
  | succ D =>
    refine xIHd_intro (E := ze_X5_back) hsc rfl (cTb_ok rfl) hh (fun r h' G HG Pf hR m => ?_)
    have K := kOK_refl (W := W_X5_backA) K
    unfold F_X5_backA
    show G m _ (0, [(0, .inl (.ref q0))], [], h, 0, 0)
    refine k_steps HG 1 (zB_iff.mpr (?_ : G m _ (1, [(0, .inl (.ref q0))], [.inl (.ref q0)], h, 0, 0)))
    refine k_getN HG rfl K hq_q0 rfl (kN_of V_26 K hq_q0 rfl) (fun t1 => (?_ : G m _ (4, [(0, .inl (.ref q0))], [.inl (.ref (hr h q0 26))], h, 0, 0)))
    refine k_steps HG 3 (zB_iff.mpr (?_ : G m _ (16, [(0, .inl (.ref q0))], [.inl (.ref q0), .inl (.ref q0)], h, 0, 0)))
    refine k_getN HG rfl K hq_q0 rfl (kN_of V_26 K hq_q0 rfl) (fun t2 => (?_ : G m _ (19, [(0, .inl (.ref q0))], [.inl (.ref (hr h q0 26)), .inl (.ref q0)], h, 0, 0)))
    refine k_cVH HG (E' := ze_X5_takeFrom) (Or.inl ⟨rfl, rfl⟩) hsc rfl rfl rfl rfl rfl K rfl (fun hh => x_X5_takeFrom_56 hsc K.1 hq_q0 t2 hh) (fun h3 K3 => (?_ : G m _ (22, [(0, .inl (.ref q0))], [], h3, 0, 0)))
    refine k_steps HG 2 (zB_iff.mpr (?_ : G m _ (24, [(1, .inl (.int (0 : Int32))), (0, .inl (.ref q0))], [], h3, 0, 0)))
    have lp4 : ∀ m4, m4 ≤ m → ∀ (nc4 : Nat) (ns4 : Nat) (v4_1 : Int32) (h4 : zH), kOK W_X5_backA T T h h4 → G m4 (Pf (fx (B_X5_backA_24 q0) (0, []) (v4_1, h4))) (24, [(0, .inl (.ref q0)), (1, .inl (.int v4_1))], [], h4, nc4, ns4) := by
      intro m4
      induction m4 with
      | zero =>
        intros
        exact k_zero HG
      | succ m4 ih4 =>
        intro le4 nc4 ns4 v4_1 h4 K4
        have le4 := Nat.le_of_succ_le le4
        have ih4 := ih4 le4
        refine k_fx ?_
        rw [B_X5_backA_24]
        refine k_first HG 2 (kb_ge (x := v4_1) (y := (8 : Int32)) ?_ ?_)
        · show G m4 _ (66, [(0, .inl (.ref q0)), (1, .inl (.int v4_1))], [], h4, nc4, ns4)
          refine k_steps HG 1 (zB_iff.mpr (?_ : G m4 _ (67, [(0, .inl (.ref q0)), (1, .inl (.int v4_1))], [.inl (.int (1 : Int32))], h4, nc4, ns4)))
          exact k_reti HG rfl rfl (fun e1 e2 => hR _ _ e1 e2 K4 trivial)
        · show G m4 _ (30, [(0, .inl (.ref q0)), (1, .inl (.int v4_1))], [], h4, nc4, ns4)
          refine k_steps HG 1 (zB_iff.mpr (?_ : G m4 _ (31, [(0, .inl (.ref q0)), (1, .inl (.int v4_1))], [.inl (.ref q0)], h4, nc4, ns4)))
          refine k_getR HG rfl K4 hq_q0 rfl (Nat.le_of_ble_eq_true rfl) rfl rfl (fun t5 => (?_ : G m4 _ (34, [(0, .inl (.ref q0)), (1, .inl (.int v4_1))], [.inl (.ref (hr h4 q0 0))], h4, nc4, ns4)))
          refine k_steps HG 1 (zB_iff.mpr (?_ : G m4 _ (35, [(0, .inl (.ref q0)), (1, .inl (.int v4_1))], [.inl (.int v4_1), .inl (.ref (hr h4 q0 0))], h4, nc4, ns4)))
          refine k_iald HG rfl K4 t5 rfl (fun _ => rfl) (?_ : G m4 _ (36, [(0, .inl (.ref q0)), (1, .inl (.int v4_1))], [.inl (.int (hv h4 (hr h4 q0 0) v4_1.toNatClampNeg))], h4, nc4, ns4))
          refine k_steps HG 2 (kb_ne (x := (hv h4 (hr h4 q0 0) v4_1.toNatClampNeg)) (y := (2 : Int32)) ?_ ?_)
          · show G m4 _ (60, [(0, .inl (.ref q0)), (1, .inl (.int v4_1))], [], h4, nc4, ns4)
            refine k_steps HG 2 (zB_iff.mpr (?_ : G m4 _ (24, [(1, .inl (.int (v4_1 + (1 : Int32)))), (0, .inl (.ref q0))], [], h4, nc4, ns4)))
            refine k_ext HG (L' := [(0, .inl (.ref q0)), (1, .inl (.int (v4_1 + (1 : Int32))))]) rfl rfl ⟨rfl, rfl, trivial⟩ ?_
            exact ih4 _ _ _ _ K4
          · show G m4 _ (40, [(0, .inl (.ref q0)), (1, .inl (.int v4_1))], [], h4, nc4, ns4)
            refine k_steps HG 1 (zB_iff.mpr (?_ : G m4 _ (41, [(0, .inl (.ref q0)), (1, .inl (.int v4_1))], [.inl (.ref q0)], h4, nc4, ns4)))
            refine k_getR HG rfl K4 hq_q0 rfl (Nat.le_of_ble_eq_true rfl) rfl rfl (fun t6 => (?_ : G m4 _ (44, [(0, .inl (.ref q0)), (1, .inl (.int v4_1))], [.inl (.ref (hr h4 q0 5))], h4, nc4, ns4)))
            refine k_steps HG 1 (zB_iff.mpr (?_ : G m4 _ (45, [(0, .inl (.ref q0)), (1, .inl (.int v4_1))], [.inl (.int v4_1), .inl (.ref (hr h4 q0 5))], h4, nc4, ns4)))
            refine k_iald HG rfl K4 t6 rfl (fun _ => rfl) (?_ : G m4 _ (46, [(0, .inl (.ref q0)), (1, .inl (.int v4_1))], [.inl (.int (hv h4 (hr h4 q0 5) v4_1.toNatClampNeg))], h4, nc4, ns4))
            refine k_steps HG 1 (zB_iff.mpr (?_ : G m4 _ (47, [(0, .inl (.ref q0)), (1, .inl (.int v4_1))], [.inl (.ref q0), .inl (.int (hv h4 (hr h4 q0 5) v4_1.toNatClampNeg))], h4, nc4, ns4)))
            refine k_getI HG rfl K4 hq_q0 rfl (Nat.le_of_ble_eq_true rfl) rfl (?_ : G m4 _ (50, [(0, .inl (.ref q0)), (1, .inl (.int v4_1))], [.inl (.int (hv h4 q0 17)), .inl (.int (hv h4 (hr h4 q0 5) v4_1.toNatClampNeg))], h4, nc4, ns4))
            refine k_steps HG 1 (kb_lt (x := (hv h4 (hr h4 q0 5) v4_1.toNatClampNeg)) (y := (hv h4 q0 17)) ?_ ?_)
            · show G m4 _ (60, [(0, .inl (.ref q0)), (1, .inl (.int v4_1))], [], h4, nc4, ns4)
              refine k_steps HG 2 (zB_iff.mpr (?_ : G m4 _ (24, [(1, .inl (.int (v4_1 + (1 : Int32)))), (0, .inl (.ref q0))], [], h4, nc4, ns4)))
              refine k_ext HG (L' := [(0, .inl (.ref q0)), (1, .inl (.int (v4_1 + (1 : Int32))))]) rfl rfl ⟨rfl, rfl, trivial⟩ ?_
              exact ih4 _ _ _ _ K4
            · show G m4 _ (53, [(0, .inl (.ref q0)), (1, .inl (.int v4_1))], [], h4, nc4, ns4)
              refine k_steps HG 1 (zB_iff.mpr (?_ : G m4 _ (54, [(0, .inl (.ref q0)), (1, .inl (.int v4_1))], [.inl (.ref q0)], h4, nc4, ns4)))
              refine k_getR HG rfl K4 hq_q0 rfl (Nat.le_of_ble_eq_true rfl) rfl rfl (fun t7 => (?_ : G m4 _ (57, [(0, .inl (.ref q0)), (1, .inl (.int v4_1))], [.inl (.ref (hr h4 q0 0))], h4, nc4, ns4)))
              refine k_steps HG 2 (zB_iff.mpr (?_ : G m4 _ (59, [(0, .inl (.ref q0)), (1, .inl (.int v4_1))], [.inl (.int (0 : Int32)), .inl (.int v4_1), .inl (.ref (hr h4 q0 0))], h4, nc4, ns4)))
              refine k_iast HG rfl K4 t7 rfl (fun _ => rfl) rfl (fun h8 K8 => (?_ : G m4 _ (60, [(0, .inl (.ref q0)), (1, .inl (.int v4_1))], [], h8, nc4, ns4)))
              refine k_steps HG 2 (zB_iff.mpr (?_ : G m4 _ (24, [(1, .inl (.int (v4_1 + (1 : Int32)))), (0, .inl (.ref q0))], [], h8, nc4, ns4)))
              refine k_ext HG (L' := [(0, .inl (.ref q0)), (1, .inl (.int (v4_1 + (1 : Int32))))]) rfl rfl ⟨rfl, rfl, trivial⟩ ?_
              exact ih4 _ _ _ _ K8
    refine k_ext HG (L' := [(0, .inl (.ref q0)), (1, .inl (.int (0 : Int32)))]) rfl rfl ⟨rfl, rfl, trivial⟩ ?_
    exact lp4 m (Nat.le_refl _) _ _ _ _ K3
def W_X5_back0 : List (Nat × Nat) := [(30, 1000)]
noncomputable def F_X5_back0 (h : zH) (q0 : Nat) : Int32 × zH := (letf (F_X5_refuse h q0 (-5 : Int32)) (fun y1 => (y1.1, y1.2)))
theorem x_X5_back0 {scr : List zV} {D : Nat} {T : List Nat} {h : zH} {q0 : Nat} (hsc : cT scr) (K : hOK kty T h) (hq_q0 : T[q0]? = some 5) (V_26 : hget h q0 26 = some (.inl .null)) (hh : cH h) : xIHd scr W_X5_back0 T T (fun _ => True) D 156 [.inl (.ref q0)] h (F_X5_back0 h q0) := by
  cases D with
  | zero => exact fun _ _ hx => absurd hx (fun q => xD_zero q)
  | succ D =>
    refine xIHd_intro (E := ze_X5_back) hsc rfl (cTb_ok rfl) hh (fun r h' G HG Pf hR m => ?_)
    have K := kOK_refl (W := W_X5_back0) K
    unfold F_X5_back0
    show G m _ (0, [(0, .inl (.ref q0))], [], h, 0, 0)
    refine k_steps HG 1 (zB_iff.mpr (?_ : G m _ (1, [(0, .inl (.ref q0))], [.inl (.ref q0)], h, 0, 0)))
    refine k_get0 HG rfl K hq_q0 rfl (kNul_of V_26 K hq_q0 rfl) (?_ : G m _ (4, [(0, .inl (.ref q0))], [.inl .null], h, 0, 0))
    refine k_steps HG 3 (zB_iff.mpr (?_ : G m _ (10, [(0, .inl (.ref q0))], [.inl (.int (-5 : Int32)), .inl (.ref q0)], h, 0, 0)))
    refine k_cVIH HG (E' := ze_X5_refuse) (Or.inl ⟨rfl, rfl⟩) hsc rfl rfl rfl rfl rfl K rfl (fun hh => x_X5_refuse hsc K.1 hq_q0 hh) (fun y1 K1 => (?_ : G m _ (13, [(0, .inl (.ref q0))], [.inl (.int y1.1)], y1.2, 0, 0)))
    exact k_reti HG rfl rfl (fun e1 e2 => hR _ _ e1 e2 K1 trivial)
