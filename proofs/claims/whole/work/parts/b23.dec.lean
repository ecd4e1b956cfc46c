def W_X5_comesOut : List (Nat × Nat) := [(5, 13), (31, 1000), (35, 1000), (36, 1000)]
noncomputable def B_X5_comesOut_26 (c0 : Nat) (c1 : Int32) (c2 : Int32) (c3 : Int32) (s : (Int32 × zH)) : (Int32 × zH) ⊕ (Int32 × zH) := (if s.1 < (hv s.2 c0 17) then (if ((c3 >>> (s.1 &&& 31)) &&& (1 : Int32)) = (0 : Int32) then (Sum.inl ((s.1 + (1 : Int32)), s.2)) else (letf (hput s.2 (hr s.2 c0 22) s.1.toNatClampNeg (.inl (.int c2))) (fun h1002 => (if (hv h1002 (hr h1002 c0 18) s.1.toNatClampNeg) = (2 : Int32) then (letf (hput h1002 (hr h1002 c0 21) s.1.toNatClampNeg (.inl (.int ((hv h1002 (hr h1002 c0 21) s.1.toNatClampNeg) + (1 : Int32))))) (fun h1006 => (Sum.inl ((s.1 + (1 : Int32)), h1006)))) else (letf (hput h1002 (hr h1002 c0 21) s.1.toNatClampNeg (.inl (.int ((hv h1002 (hr h1002 c0 21) s.1.toNatClampNeg) + (0 : Int32))))) (fun h1005 => (Sum.inl ((s.1 + (1 : Int32)), h1005)))))))) else (Sum.inr (c3, s.2)))
noncomputable def F_X5_comesOut (h : zH) (q0 : Nat) (a1 : Int32) (a2 : Int32) : Int32 × zH := (letf (F_X5_winsBy h q0 a1) (fun y1 => (letf (hput h (hr h q0 16) a1.toNatClampNeg (.inl (.int (1 : Int32)))) (fun h3 => (letf (hput h3 q0 13 (.inl (.int ((hv h3 q0 13) + (1 : Int32))))) (fun h4 => (fx (B_X5_comesOut_26 q0 a1 a2 y1) (0, []) ((0 : Int32), h4))))))))
theorem x_X5_comesOut {scr : List zV} {T : List Nat} {h : zH} {q0 : Nat} {a1 : Int32} {a2 : Int32} (hsc : cT scr) (K : hOK kty T h) (hq_q0 : T[q0]? = some 5) (hh : cH h) : xIH scr W_X5_comesOut T T 169 [.inl (.ref q0), .inl (.int a1), .inl (.int a2)] h (F_X5_comesOut h q0 a1 a2) := by
  refine xIH_intro (E := ze_X5_comesOut) hsc rfl (cTb_ok rfl) hh (fun d r h' G HG Pf hR m => ?_)
  have K := kOK_refl (W := W_X5_comesOut) K
  unfold F_X5_comesOut
  show G m _ (0, [(0, .inl (.ref q0)), (1, .inl (.int a1)), (2, .inl (.int a2))], [], h, 0, 0)
  refine k_steps HG 2 (zB_iff.mpr (?_ : G m _ (2, [(0, .inl (.ref q0)), (1, .inl (.int a1)), (2, .inl (.int a2))], [.inl (.int a1), .inl (.ref q0)], h, 0, 0)))
  refine k_cVI HG (E' := ze_X5_winsBy) (Or.inl ⟨rfl, rfl⟩) hsc rfl rfl rfl rfl rfl (fun hh => x_X5_winsBy hsc K.1 hq_q0 hh) (fun y1 => (?_ : G m _ (5, [(0, .inl (.ref q0)), (1, .inl (.int a1)), (2, .inl (.int a2))], [.inl (.int y1)], h, 0, 0)))
  refine k_steps HG 2 (zB_iff.mpr (?_ : G m _ (7, [(3, .inl (.int y1)), (0, .inl (.ref q0)), (1, .inl (.int a1)), (2, .inl (.int a2))], [.inl (.ref q0)], h, 0, 0)))
  refine k_getR HG rfl K hq_q0 rfl (Nat.le_of_ble_eq_true rfl) rfl rfl (fun t2 => (?_ : G m _ (10, [(3, .inl (.int y1)), (0, .inl (.ref q0)), (1, .inl (.int a1)), (2, .inl (.int a2))], [.inl (.ref (hr h q0 16))], h, 0, 0)))
  refine k_steps HG 2 (zB_iff.mpr (?_ : G m _ (12, [(3, .inl (.int y1)), (0, .inl (.ref q0)), (1, .inl (.int a1)), (2, .inl (.int a2))], [.inl (.int (1 : Int32)), .inl (.int a1), .inl (.ref (hr h q0 16))], h, 0, 0)))
  refine k_iast HG rfl K t2 rfl (fun _ => rfl) rfl (fun h3 K3 => (?_ : G m _ (13, [(3, .inl (.int y1)), (0, .inl (.ref q0)), (1, .inl (.int a1)), (2, .inl (.int a2))], [], h3, 0, 0)))
  refine k_steps HG 2 (zB_iff.mpr (?_ : G m _ (15, [(3, .inl (.int y1)), (0, .inl (.ref q0)), (1, .inl (.int a1)), (2, .inl (.int a2))], [.inl (.ref q0), .inl (.ref q0)], h3, 0, 0)))
  refine k_getI HG rfl K3 hq_q0 rfl (Nat.le_of_ble_eq_true rfl) rfl (?_ : G m _ (18, [(3, .inl (.int y1)), (0, .inl (.ref q0)), (1, .inl (.int a1)), (2, .inl (.int a2))], [.inl (.int (hv h3 q0 13)), .inl (.ref q0)], h3, 0, 0))
  refine k_steps HG 2 (zB_iff.mpr (?_ : G m _ (20, [(3, .inl (.int y1)), (0, .inl (.ref q0)), (1, .inl (.int a1)), (2, .inl (.int a2))], [.inl (.int ((hv h3 q0 13) + (1 : Int32))), .inl (.ref q0)], h3, 0, 0)))
  refine k_putI HG rfl K3 hq_q0 rfl rfl rfl (fun h4 K4 => (?_ : G m _ (23, [(3, .inl (.int y1)), (0, .inl (.ref q0)), (1, .inl (.int a1)), (2, .inl (.int a2))], [], h4, 0, 0)))
  refine k_steps HG 2 (zB_iff.mpr (?_ : G m _ (26, [(4, .inl (.int (0 : Int32))), (3, .inl (.int y1)), (0, .inl (.ref q0)), (1, .inl (.int a1)), (2, .inl (.int a2))], [], h4, 0, 0)))
  have lp5 : ∀ m5, m5 ≤ m → ∀ (v5_4 : Int32) (h5 : zH), kOK W_X5_comesOut T T h h5 → G m5 (Pf (fx (B_X5_comesOut_26 q0 a1 a2 y1) (0, []) (v5_4, h5))) (26, [(0, .inl (.ref q0)), (1, .inl (.int a1)), (2, .inl (.int a2)), (3, .inl (.int y1)), (4, .inl (.int v5_4))], [], h5, 0, 0) := by
    intro m5
    induction m5 with
    | zero =>
      intros
      exact k_zero HG
    | succ m5 ih5 =>
      intro le5 v5_4 h5 K5
      have le5 := Nat.le_of_succ_le le5
      have ih5 := ih5 le5
      refine k_fx ?_
      rw [B_X5_comesOut_26]
      refine k_first HG 1 (zB_iff.mpr (?_ : G m5 _ (29, [(0, .inl (.ref q0)), (1, .inl (.int a1)), (2, .inl (.int a2)), (3, .inl (.int y1)), (4, .inl (.int v5_4))], [.inl (.ref q0), .inl (.int v5_4)], h5, 0, 0)))
      refine k_getI HG rfl K5 hq_q0 rfl (Nat.le_of_ble_eq_true rfl) rfl (?_ : G m5 _ (32, [(0, .inl (.ref q0)), (1, .inl (.int a1)), (2, .inl (.int a2)), (3, .inl (.int y1)), (4, .inl (.int v5_4))], [.inl (.int (hv h5 q0 17)), .inl (.int v5_4)], h5, 0, 0))
      refine k_steps HG 1 (kb_ge (x := v5_4) (y := (hv h5 q0 17)) ?_ ?_)
      · show G m5 _ (84, [(0, .inl (.ref q0)), (1, .inl (.int a1)), (2, .inl (.int a2)), (3, .inl (.int y1)), (4, .inl (.int v5_4))], [], h5, 0, 0)
        refine k_steps HG 1 (zB_iff.mpr (?_ : G m5 _ (85, [(0, .inl (.ref q0)), (1, .inl (.int a1)), (2, .inl (.int a2)), (3, .inl (.int y1)), (4, .inl (.int v5_4))], [.inl (.int y1)], h5, 0, 0)))
        exact k_reti HG rfl rfl (fun e1 e2 => hR _ _ e1 e2 K5)
      · show G m5 _ (35, [(0, .inl (.ref q0)), (1, .inl (.int a1)), (2, .inl (.int a2)), (3, .inl (.int y1)), (4, .inl (.int v5_4))], [], h5, 0, 0)
        refine k_steps HG 6 (kb_eq (x := ((y1 >>> (v5_4 &&& 31)) &&& (1 : Int32))) (y := (0 : Int32)) ?_ ?_)
        · show G m5 _ (78, [(0, .inl (.ref q0)), (1, .inl (.int a1)), (2, .inl (.int a2)), (3, .inl (.int y1)), (4, .inl (.int v5_4))], [], h5, 0, 0)
          refine k_steps HG 2 (zB_iff.mpr (?_ : G m5 _ (26, [(4, .inl (.int (v5_4 + (1 : Int32)))), (0, .inl (.ref q0)), (1, .inl (.int a1)), (2, .inl (.int a2)), (3, .inl (.int y1))], [], h5, 0, 0)))
          refine k_ext HG (L' := [(0, .inl (.ref q0)), (1, .inl (.int a1)), (2, .inl (.int a2)), (3, .inl (.int y1)), (4, .inl (.int (v5_4 + (1 : Int32))))]) rfl rfl ⟨rfl, rfl, rfl, rfl, rfl, trivial⟩ ?_
          exact ih5 _ _ K5
        · show G m5 _ (44, [(0, .inl (.ref q0)), (1, .inl (.int a1)), (2, .inl (.int a2)), (3, .inl (.int y1)), (4, .inl (.int v5_4))], [], h5, 0, 0)
          refine k_steps HG 1 (zB_iff.mpr (?_ : G m5 _ (45, [(0, .inl (.ref q0)), (1, .inl (.int a1)), (2, .inl (.int a2)), (3, .inl (.int y1)), (4, .inl (.int v5_4))], [.inl (.ref q0)], h5, 0, 0)))
          refine k_getR HG rfl K5 hq_q0 rfl (Nat.le_of_ble_eq_true rfl) rfl rfl (fun t6 => (?_ : G m5 _ (48, [(0, .inl (.ref q0)), (1, .inl (.int a1)), (2, .inl (.int a2)), (3, .inl (.int y1)), (4, .inl (.int v5_4))], [.inl (.ref (hr h5 q0 22))], h5, 0, 0)))
          refine k_steps HG 2 (zB_iff.mpr (?_ : G m5 _ (51, [(0, .inl (.ref q0)), (1, .inl (.int a1)), (2, .inl (.int a2)), (3, .inl (.int y1)), (4, .inl (.int v5_4))], [.inl (.int a2), .inl (.int v5_4), .inl (.ref (hr h5 q0 22))], h5, 0, 0)))
          refine k_iast HG rfl K5 t6 rfl (fun _ => rfl) rfl (fun h7 K7 => (?_ : G m5 _ (52, [(0, .inl (.ref q0)), (1, .inl (.int a1)), (2, .inl (.int a2)), (3, .inl (.int y1)), (4, .inl (.int v5_4))], [], h7, 0, 0)))
          refine k_steps HG 1 (zB_iff.mpr (?_ : G m5 _ (53, [(0, .inl (.ref q0)), (1, .inl (.int a1)), (2, .inl (.int a2)), (3, .inl (.int y1)), (4, .inl (.int v5_4))], [.inl (.ref q0)], h7, 0, 0)))
          refine k_getR HG rfl K7 hq_q0 rfl (Nat.le_of_ble_eq_true rfl) rfl rfl (fun t8 => (?_ : G m5 _ (56, [(0, .inl (.ref q0)), (1, .inl (.int a1)), (2, .inl (.int a2)), (3, .inl (.int y1)), (4, .inl (.int v5_4))], [.inl (.ref (hr h7 q0 21))], h7, 0, 0)))
          refine k_steps HG 2 (zB_iff.mpr (?_ : G m5 _ (59, [(0, .inl (.ref q0)), (1, .inl (.int a1)), (2, .inl (.int a2)), (3, .inl (.int y1)), (4, .inl (.int v5_4))], [.inl (.int v5_4), .inl (.ref (hr h7 q0 21)), .inl (.int v5_4), .inl (.ref (hr h7 q0 21))], h7, 0, 0)))
          refine k_iald HG rfl K7 t8 rfl (fun _ => rfl) (?_ : G m5 _ (60, [(0, .inl (.ref q0)), (1, .inl (.int a1)), (2, .inl (.int a2)), (3, .inl (.int y1)), (4, .inl (.int v5_4))], [.inl (.int (hv h7 (hr h7 q0 21) v5_4.toNatClampNeg)), .inl (.int v5_4), .inl (.ref (hr h7 q0 21))], h7, 0, 0))
          refine k_steps HG 1 (zB_iff.mpr (?_ : G m5 _ (61, [(0, .inl (.ref q0)), (1, .inl (.int a1)), (2, .inl (.int a2)), (3, .inl (.int y1)), (4, .inl (.int v5_4))], [.inl (.ref q0), .inl (.int (hv h7 (hr h7 q0 21) v5_4.toNatClampNeg)), .inl (.int v5_4), .inl (.ref (hr h7 q0 21))], h7, 0, 0)))
          refine k_getR HG rfl K7 hq_q0 rfl (Nat.le_of_ble_eq_true rfl) rfl rfl (fun t9 => (?_ : G m5 _ (64, [(0, .inl (.ref q0)), (1, .inl (.int a1)), (2, .inl (.int a2)), (3, .inl (.int y1)), (4, .inl (.int v5_4))], [.inl (.ref (hr h7 q0 18)), .inl (.int (hv h7 (hr h7 q0 21) v5_4.toNatClampNeg)), .inl (.int v5_4), .inl (.ref (hr h7 q0 21))], h7, 0, 0)))
          refine k_steps HG 1 (zB_iff.mpr (?_ : G m5 _ (66, [(0, .inl (.ref q0)), (1, .inl (.int a1)), (2, .inl (.int a2)), (3, .inl (.int y1)), (4, .inl (.int v5_4))], [.inl (.int v5_4), .inl (.ref (hr h7 q0 18)), .inl (.int (hv h7 (hr h7 q0 21) v5_4.toNatClampNeg)), .inl (.int v5_4), .inl (.ref (hr h7 q0 21))], h7, 0, 0)))
          refine k_iald HG rfl K7 t9 rfl (fun _ => rfl) (?_ : G m5 _ (67, [(0, .inl (.ref q0)), (1, .inl (.int a1)), (2, .inl (.int a2)), (3, .inl (.int y1)), (4, .inl (.int v5_4))], [.inl (.int (hv h7 (hr h7 q0 18) v5_4.toNatClampNeg)), .inl (.int (hv h7 (hr h7 q0 21) v5_4.toNatClampNeg)), .inl (.int v5_4), .inl (.ref (hr h7 q0 21))], h7, 0, 0))
          refine k_steps HG 2 (kb_ne (x := (hv h7 (hr h7 q0 18) v5_4.toNatClampNeg)) (y := (2 : Int32)) ?_ ?_)
          · show G m5 _ (75, [(0, .inl (.ref q0)), (1, .inl (.int a1)), (2, .inl (.int a2)), (3, .inl (.int y1)), (4, .inl (.int v5_4))], [.inl (.int (hv h7 (hr h7 q0 21) v5_4.toNatClampNeg)), .inl (.int v5_4), .inl (.ref (hr h7 q0 21))], h7, 0, 0)
            refine k_steps HG 2 (zB_iff.mpr (?_ : G m5 _ (77, [(0, .inl (.ref q0)), (1, .inl (.int a1)), (2, .inl (.int a2)), (3, .inl (.int y1)), (4, .inl (.int v5_4))], [.inl (.int ((hv h7 (hr h7 q0 21) v5_4.toNatClampNeg) + (0 : Int32))), .inl (.int v5_4), .inl (.ref (hr h7 q0 21))], h7, 0, 0)))
            refine k_iast HG rfl K7 t8 rfl (fun _ => rfl) rfl (fun h10 K10 => (?_ : G m5 _ (78, [(0, .inl (.ref q0)), (1, .inl (.int a1)), (2, .inl (.int a2)), (3, .inl (.int y1)), (4, .inl (.int v5_4))], [], h10, 0, 0)))
            refine k_steps HG 2 (zB_iff.mpr (?_ : G m5 _ (26, [(4, .inl (.int (v5_4 + (1 : Int32)))), (0, .inl (.ref q0)), (1, .inl (.int a1)), (2, .inl (.int a2)), (3, .inl (.int y1))], [], h10, 0, 0)))
            refine k_ext HG (L' := [(0, .inl (.ref q0)), (1, .inl (.int a1)), (2, .inl (.int a2)), (3, .inl (.int y1)), (4, .inl (.int (v5_4 + (1 : Int32))))]) rfl rfl ⟨rfl, rfl, rfl, rfl, rfl, trivial⟩ ?_
            exact ih5 _ _ K10
          · show G m5 _ (71, [(0, .inl (.ref q0)), (1, .inl (.int a1)), (2, .inl (.int a2)), (3, .inl (.int y1)), (4, .inl (.int v5_4))], [.inl (.int (hv h7 (hr h7 q0 21) v5_4.toNatClampNeg)), .inl (.int v5_4), .inl (.ref (hr h7 q0 21))], h7, 0, 0)
            refine k_steps HG 3 (zB_iff.mpr (?_ : G m5 _ (77, [(0, .inl (.ref q0)), (1, .inl (.int a1)), (2, .inl (.int a2)), (3, .inl (.int y1)), (4, .inl (.int v5_4))], [.inl (.int ((hv h7 (hr h7 q0 21) v5_4.toNatClampNeg) + (1 : Int32))), .inl (.int v5_4), .inl (.ref (hr h7 q0 21))], h7, 0, 0)))
            refine k_iast HG rfl K7 t8 rfl (fun _ => rfl) rfl (fun h11 K11 => (?_ : G m5 _ (78, [(0, .inl (.ref q0)), (1, .inl (.int a1)), (2, .inl (.int a2)), (3, .inl (.int y1)), (4, .inl (.int v5_4))], [], h11, 0, 0)))
            refine k_steps HG 2 (zB_iff.mpr (?_ : G m5 _ (26, [(4, .inl (.int (v5_4 + (1 : Int32)))), (0, .inl (.ref q0)), (1, .inl (.int a1)), (2, .inl (.int a2)), (3, .inl (.int y1))], [], h11, 0, 0)))
            refine k_ext HG (L' := [(0, .inl (.ref q0)), (1, .inl (.int a1)), (2, .inl (.int a2)), (3, .inl (.int y1)), (4, .inl (.int (v5_4 + (1 : Int32))))]) rfl rfl ⟨rfl, rfl, rfl, rfl, rfl, trivial⟩ ?_
            exact ih5 _ _ K11
  refine k_ext HG (L' := [(0, .inl (.ref q0)), (1, .inl (.int a1)), (2, .inl (.int a2)), (3, .inl (.int y1)), (4, .inl (.int (0 : Int32)))]) rfl rfl ⟨rfl, rfl, rfl, rfl, rfl, trivial⟩ ?_
  exact lp5 m (Nat.le_refl _) _ _ K4
def W_X5_comesOut_6 : List (Nat × Nat) := [(6, 13), (31, 1000), (35, 1000), (36, 1000)]
noncomputable def B_X5_comesOut_6_26 (c0 : Nat) (c1 : Int32) (c2 : Int32) (c3 : Int32) (s : (Int32 × zH)) : (Int32 × zH) ⊕ (Int32 × zH) := (if s.1 < (hv s.2 c0 17) then (if ((c3 >>> (s.1 &&& 31)) &&& (1 : Int32)) = (0 : Int32) then (Sum.inl ((s.1 + (1 : Int32)), s.2)) else (letf (hput s.2 (hr s.2 c0 22) s.1.toNatClampNeg (.inl (.int c2))) (fun h1002 => (if (hv h1002 (hr h1002 c0 18) s.1.toNatClampNeg) = (2 : Int32) then (letf (hput h1002 (hr h1002 c0 21) s.1.toNatClampNeg (.inl (.int ((hv h1002 (hr h1002 c0 21) s.1.toNatClampNeg) + (1 : Int32))))) (fun h1006 => (Sum.inl ((s.1 + (1 : Int32)), h1006)))) else (letf (hput h1002 (hr h1002 c0 21) s.1.toNatClampNeg (.inl (.int ((hv h1002 (hr h1002 c0 21) s.1.toNatClampNeg) + (0 : Int32))))) (fun h1005 => (Sum.inl ((s.1 + (1 : Int32)), h1005)))))))) else (Sum.inr (c3, s.2)))
noncomputable def F_X5_comesOut_6 (h : zH) (q0 : Nat) (a1 : Int32) (a2 : Int32) : Int32 × zH := (letf (F_X5_winsBy_6 h q0 a1) (fun y1 => (letf (hput h (hr h q0 16) a1.toNatClampNeg (.inl (.int (1 : Int32)))) (fun h3 => (letf (hput h3 q0 13 (.inl (.int ((hv h3 q0 13) + (1 : Int32))))) (fun h4 => (fx (B_X5_comesOut_6_26 q0 a1 a2 y1) (0, []) ((0 : Int32), h4))))))))
theorem x_X5_comesOut_6 {scr : List zV} {T : List Nat} {h : zH} {q0 : Nat} {a1 : Int32} {a2 : Int32} (hsc : cT scr) (K : hOK kty T h) (hq_q0 : T[q0]? = some 6) (hh : cH h) : xIH scr W_X5_comesOut_6 T T 169 [.inl (.ref q0), .inl (.int a1), .inl (.int a2)] h (F_X5_comesOut_6 h q0 a1 a2) := by
  refine xIH_intro (E := ze_X5_comesOut) hsc rfl (cTb_ok rfl) hh (fun d r h' G HG Pf hR m => ?_)
  have K := kOK_refl (W := W_X5_comesOut_6) K
  unfold F_X5_comesOut_6
  show G m _ (0, [(0, .inl (.ref q0)), (1, .inl (.int a1)), (2, .inl (.int a2))], [], h, 0, 0)
  refine k_steps HG 2 (zB_iff.mpr (?_ : G m _ (2, [(0, .inl (.ref q0)), (1, .inl (.int a1)), (2, .inl (.int a2))], [.inl (.int a1), .inl (.ref q0)], h, 0, 0)))
  refine k_cVI HG (E' := ze_X5_winsBy) (Or.inl ⟨rfl, rfl⟩) hsc rfl rfl rfl rfl rfl (fun hh => x_X5_winsBy_6 hsc K.1 hq_q0 hh) (fun y1 => (?_ : G m _ (5, [(0, .inl (.ref q0)), (1, .inl (.int a1)), (2, .inl (.int a2))], [.inl (.int y1)], h, 0, 0)))
  refine k_steps HG 2 (zB_iff.mpr (?_ : G m _ (7, [(3, .inl (.int y1)), (0, .inl (.ref q0)), (1, .inl (.int a1)), (2, .inl (.int a2))], [.inl (.ref q0)], h, 0, 0)))
  refine k_getR HG rfl K hq_q0 rfl (Nat.le_of_ble_eq_true rfl) rfl rfl (fun t2 => (?_ : G m _ (10, [(3, .inl (.int y1)), (0, .inl (.ref q0)), (1, .inl (.int a1)), (2, .inl (.int a2))], [.inl (.ref (hr h q0 16))], h, 0, 0)))
  refine k_steps HG 2 (zB_iff.mpr (?_ : G m _ (12, [(3, .inl (.int y1)), (0, .inl (.ref q0)), (1, .inl (.int a1)), (2, .inl (.int a2))], [.inl (.int (1 : Int32)), .inl (.int a1), .inl (.ref (hr h q0 16))], h, 0, 0)))
  refine k_iast HG rfl K t2 rfl (fun _ => rfl) rfl (fun h3 K3 => (?_ : G m _ (13, [(3, .inl (.int y1)), (0, .inl (.ref q0)), (1, .inl (.int a1)), (2, .inl (.int a2))], [], h3, 0, 0)))
  refine k_steps HG 2 (zB_iff.mpr (?_ : G m _ (15, [(3, .inl (.int y1)), (0, .inl (.ref q0)), (1, .inl (.int a1)), (2, .inl (.int a2))], [.inl (.ref q0), .inl (.ref q0)], h3, 0, 0)))
  refine k_getI HG rfl K3 hq_q0 rfl (Nat.le_of_ble_eq_true rfl) rfl (?_ : G m _ (18, [(3, .inl (.int y1)), (0, .inl (.ref q0)), (1, .inl (.int a1)), (2, .inl (.int a2))], [.inl (.int (hv h3 q0 13)), .inl (.ref q0)], h3, 0, 0))
  refine k_steps HG 2 (zB_iff.mpr (?_ : G m _ (20, [(3, .inl (.int y1)), (0, .inl (.ref q0)), (1, .inl (.int a1)), (2, .inl (.int a2))], [.inl (.int ((hv h3 q0 13) + (1 : Int32))), .inl (.ref q0)], h3, 0, 0)))
  refine k_putI HG rfl K3 hq_q0 rfl rfl rfl (fun h4 K4 => (?_ : G m _ (23, [(3, .inl (.int y1)), (0, .inl (.ref q0)), (1, .inl (.int a1)), (2, .inl (.int a2))], [], h4, 0, 0)))
  refine k_steps HG 2 (zB_iff.mpr (?_ : G m _ (26, [(4, .inl (.int (0 : Int32))), (3, .inl (.int y1)), (0, .inl (.ref q0)), (1, .inl (.int a1)), (2, .inl (.int a2))], [], h4, 0, 0)))
  have lp5 : ∀ m5, m5 ≤ m → ∀ (v5_4 : Int32) (h5 : zH), kOK W_X5_comesOut_6 T T h h5 → G m5 (Pf (fx (B_X5_comesOut_6_26 q0 a1 a2 y1) (0, []) (v5_4, h5))) (26, [(0, .inl (.ref q0)), (1, .inl (.int a1)), (2, .inl (.int a2)), (3, .inl (.int y1)), (4, .inl (.int v5_4))], [], h5, 0, 0) := by
    intro m5
    induction m5 with
    | zero =>
      intros
      exact k_zero HG
    | succ m5 ih5 =>
      intro le5 v5_4 h5 K5
      have le5 := Nat.le_of_succ_le le5
      have ih5 := ih5 le5
      refine k_fx ?_
      rw [B_X5_comesOut_6_26]
      refine k_first HG 1 (zB_iff.mpr (?_ : G m5 _ (29, [(0, .inl (.ref q0)), (1, .inl (.int a1)), (2, .inl (.int a2)), (3, .inl (.int y1)), (4, .inl (.int v5_4))], [.inl (.ref q0), .inl (.int v5_4)], h5, 0, 0)))
      refine k_getI HG rfl K5 hq_q0 rfl (Nat.le_of_ble_eq_true rfl) rfl (?_ : G m5 _ (32, [(0, .inl (.ref q0)), (1, .inl (.int a1)), (2, .inl (.int a2)), (3, .inl (.int y1)), (4, .inl (.int v5_4))], [.inl (.int (hv h5 q0 17)), .inl (.int v5_4)], h5, 0, 0))
      refine k_steps HG 1 (kb_ge (x := v5_4) (y := (hv h5 q0 17)) ?_ ?_)
      · show G m5 _ (84, [(0, .inl (.ref q0)), (1, .inl (.int a1)), (2, .inl (.int a2)), (3, .inl (.int y1)), (4, .inl (.int v5_4))], [], h5, 0, 0)
        refine k_steps HG 1 (zB_iff.mpr (?_ : G m5 _ (85, [(0, .inl (.ref q0)), (1, .inl (.int a1)), (2, .inl (.int a2)), (3, .inl (.int y1)), (4, .inl (.int v5_4))], [.inl (.int y1)], h5, 0, 0)))
        exact k_reti HG rfl rfl (fun e1 e2 => hR _ _ e1 e2 K5)
      · show G m5 _ (35, [(0, .inl (.ref q0)), (1, .inl (.int a1)), (2, .inl (.int a2)), (3, .inl (.int y1)), (4, .inl (.int v5_4))], [], h5, 0, 0)
        refine k_steps HG 6 (kb_eq (x := ((y1 >>> (v5_4 &&& 31)) &&& (1 : Int32))) (y := (0 : Int32)) ?_ ?_)
        · show G m5 _ (78, [(0, .inl (.ref q0)), (1, .inl (.int a1)), (2, .inl (.int a2)), (3, .inl (.int y1)), (4, .inl (.int v5_4))], [], h5, 0, 0)
          refine k_steps HG 2 (zB_iff.mpr (?_ : G m5 _ (26, [(4, .inl (.int (v5_4 + (1 : Int32)))), (0, .inl (.ref q0)), (1, .inl (.int a1)), (2, .inl (.int a2)), (3, .inl (.int y1))], [], h5, 0, 0)))
          refine k_ext HG (L' := [(0, .inl (.ref q0)), (1, .inl (.int a1)), (2, .inl (.int a2)), (3, .inl (.int y1)), (4, .inl (.int (v5_4 + (1 : Int32))))]) rfl rfl ⟨rfl, rfl, rfl, rfl, rfl, trivial⟩ ?_
          exact ih5 _ _ K5
        · show G m5 _ (44, [(0, .inl (.ref q0)), (1, .inl (.int a1)), (2, .inl (.int a2)), (3, .inl (.int y1)), (4, .inl (.int v5_4))], [], h5, 0, 0)
          refine k_steps HG 1 (zB_iff.mpr (?_ : G m5 _ (45, [(0, .inl (.ref q0)), (1, .inl (.int a1)), (2, .inl (.int a2)), (3, .inl (.int y1)), (4, .inl (.int v5_4))], [.inl (.ref q0)], h5, 0, 0)))
          refine k_getR HG rfl K5 hq_q0 rfl (Nat.le_of_ble_eq_true rfl) rfl rfl (fun t6 => (?_ : G m5 _ (48, [(0, .inl (.ref q0)), (1, .inl (.int a1)), (2, .inl (.int a2)), (3, .inl (.int y1)), (4, .inl (.int v5_4))], [.inl (.ref (hr h5 q0 22))], h5, 0, 0)))
          refine k_steps HG 2 (zB_iff.mpr (?_ : G m5 _ (51, [(0, .inl (.ref q0)), (1, .inl (.int a1)), (2, .inl (.int a2)), (3, .inl (.int y1)), (4, .inl (.int v5_4))], [.inl (.int a2), .inl (.int v5_4), .inl (.ref (hr h5 q0 22))], h5, 0, 0)))
          refine k_iast HG rfl K5 t6 rfl (fun _ => rfl) rfl (fun h7 K7 => (?_ : G m5 _ (52, [(0, .inl (.ref q0)), (1, .inl (.int a1)), (2, .inl (.int a2)), (3, .inl (.int y1)), (4, .inl (.int v5_4))], [], h7, 0, 0)))
          refine k_steps HG 1 (zB_iff.mpr (?_ : G m5 _ (53, [(0, .inl (.ref q0)), (1, .inl (.int a1)), (2, .inl (.int a2)), (3, .inl (.int y1)), (4, .inl (.int v5_4))], [.inl (.ref q0)], h7, 0, 0)))
          refine k_getR HG rfl K7 hq_q0 rfl (Nat.le_of_ble_eq_true rfl) rfl rfl (fun t8 => (?_ : G m5 _ (56, [(0, .inl (.ref q0)), (1, .inl (.int a1)), (2, .inl (.int a2)), (3, .inl (.int y1)), (4, .inl (.int v5_4))], [.inl (.ref (hr h7 q0 21))], h7, 0, 0)))
          refine k_steps HG 2 (zB_iff.mpr (?_ : G m5 _ (59, [(0, .inl (.ref q0)), (1, .inl (.int a1)), (2, .inl (.int a2)), (3, .inl (.int y1)), (4, .inl (.int v5_4))], [.inl (.int v5_4), .inl (.ref (hr h7 q0 21)), .inl (.int v5_4), .inl (.ref (hr h7 q0 21))], h7, 0, 0)))
          refine k_iald HG rfl K7 t8 rfl (fun _ => rfl) (?_ : G m5 _ (60, [(0, .inl (.ref q0)), (1, .inl (.int a1)), (2, .inl (.int a2)), (3, .inl (.int y1)), (4, .inl (.int v5_4))], [.inl (.int (hv h7 (hr h7 q0 21) v5_4.toNatClampNeg)), .inl (.int v5_4), .inl (.ref (hr h7 q0 21))], h7, 0, 0))
          refine k_steps HG 1 (zB_iff.mpr (?_ : G m5 _ (61, [(0, .inl (.ref q0)), (1, .inl (.int a1)), (2, .inl (.int a2)), (3, .inl (.int y1)), (4, .inl (.int v5_4))], [.inl (.ref q0), .inl (.int (hv h7 (hr h7 q0 21) v5_4.toNatClampNeg)), .inl (.int v5_4), .inl (.ref (hr h7 q0 21))], h7, 0, 0)))
          refine k_getR HG rfl K7 hq_q0 rfl (Nat.le_of_ble_eq_true rfl) rfl rfl (fun t9 => (?_ : G m5 _ (64, [(0, .inl (.ref q0)), (1, .inl (.int a1)), (2, .inl (.int a2)), (3, .inl (.int y1)), (4, .inl (.int v5_4))], [.inl (.ref (hr h7 q0 18)), .inl (.int (hv h7 (hr h7 q0 21) v5_4.toNatClampNeg)), .inl (.int v5_4), .inl (.ref (hr h7 q0 21))], h7, 0, 0)))
          refine k_steps HG 1 (zB_iff.mpr (?_ : G m5 _ (66, [(0, .inl (.ref q0)), (1, .inl (.int a1)), (2, .inl (.int a2)), (3, .inl (.int y1)), (4, .inl (.int v5_4))], [.inl (.int v5_4), .inl (.ref (hr h7 q0 18)), .inl (.int (hv h7 (hr h7 q0 21) v5_4.toNatClampNeg)), .inl (.int v5_4), .inl (.ref (hr h7 q0 21))], h7, 0, 0)))
          refine k_iald HG rfl K7 t9 rfl (fun _ => rfl) (?_ : G m5 _ (67, [(0, .inl (.ref q0)), (1, .inl (.int a1)), (2, .inl (.int a2)), (3, .inl (.int y1)), (4, .inl (.int v5_4))], [.inl (.int (hv h7 (hr h7 q0 18) v5_4.toNatClampNeg)), .inl (.int (hv h7 (hr h7 q0 21) v5_4.toNatClampNeg)), .inl (.int v5_4), .inl (.ref (hr h7 q0 21))], h7, 0, 0))
          refine k_steps HG 2 (kb_ne (x := (hv h7 (hr h7 q0 18) v5_4.toNatClampNeg)) (y := (2 : Int32)) ?_ ?_)
          · show G m5 _ (75, [(0, .inl (.ref q0)), (1, .inl (.int a1)), (2, .inl (.int a2)), (3, .inl (.int y1)), (4, .inl (.int v5_4))], [.inl (.int (hv h7 (hr h7 q0 21) v5_4.toNatClampNeg)), .inl (.int v5_4), .inl (.ref (hr h7 q0 21))], h7, 0, 0)
            refine k_steps HG 2 (zB_iff.mpr (?_ : G m5 _ (77, [(0, .inl (.ref q0)), (1, .inl (.int a1)), (2, .inl (.int a2)), (3, .inl (.int y1)), (4, .inl (.int v5_4))], [.inl (.int ((hv h7 (hr h7 q0 21) v5_4.toNatClampNeg) + (0 : Int32))), .inl (.int v5_4), .inl (.ref (hr h7 q0 21))], h7, 0, 0)))
            refine k_iast HG rfl K7 t8 rfl (fun _ => rfl) rfl (fun h10 K10 => (?_ : G m5 _ (78, [(0, .inl (.ref q0)), (1, .inl (.int a1)), (2, .inl (.int a2)), (3, .inl (.int y1)), (4, .inl (.int v5_4))], [], h10, 0, 0)))
            refine k_steps HG 2 (zB_iff.mpr (?_ : G m5 _ (26, [(4, .inl (.int (v5_4 + (1 : Int32)))), (0, .inl (.ref q0)), (1, .inl (.int a1)), (2, .inl (.int a2)), (3, .inl (.int y1))], [], h10, 0, 0)))
            refine k_ext HG (L' := [(0, .inl (.ref q0)), (1, .inl (.int a1)), (2, .inl (.int a2)), (3, .inl (.int y1)), (4, .inl (.int (v5_4 + (1 : Int32))))]) rfl rfl ⟨rfl, rfl, rfl, rfl, rfl, trivial⟩ ?_
            exact ih5 _ _ K10
          · show G m5 _ (71, [(0, .inl (.ref q0)), (1, .inl (.int a1)), (2, .inl (.int a2)), (3, .inl (.int y1)), (4, .inl (.int v5_4))], [.inl (.int (hv h7 (hr h7 q0 21) v5_4.toNatClampNeg)), .inl (.int v5_4), .inl (.ref (hr h7 q0 21))], h7, 0, 0)
            refine k_steps HG 3 (zB_iff.mpr (?_ : G m5 _ (77, [(0, .inl (.ref q0)), (1, .inl (.int a1)), (2, .inl (.int a2)), (3, .inl (.int y1)), (4, .inl (.int v5_4))], [.inl (.int ((hv h7 (hr h7 q0 21) v5_4.toNatClampNeg) + (1 : Int32))), .inl (.int v5_4), .inl (.ref (hr h7 q0 21))], h7, 0, 0)))
            refine k_iast HG rfl K7 t8 rfl (fun _ => rfl) rfl (fun h11 K11 => (?_ : G m5 _ (78, [(0, .inl (.ref q0)), (1, .inl (.int a1)), (2, .inl (.int a2)), (3, .inl (.int y1)), (4, .inl (.int v5_4))], [], h11, 0, 0)))
            refine k_steps HG 2 (zB_iff.mpr (?_ : G m5 _ (26, [(4, .inl (.int (v5_4 + (1 : Int32)))), (0, .inl (.ref q0)), (1, .inl (.int a1)), (2, .inl (.int a2)), (3, .inl (.int y1))], [], h11, 0, 0)))
            refine k_ext HG (L' := [(0, .inl (.ref q0)), (1, .inl (.int a1)), (2, .inl (.int a2)), (3, .inl (.int y1)), (4, .inl (.int (v5_4 + (1 : Int32))))]) rfl rfl ⟨rfl, rfl, rfl, rfl, rfl, trivial⟩ ?_
            exact ih5 _ _ K11
  refine k_ext HG (L' := [(0, .inl (.ref q0)), (1, .inl (.int a1)), (2, .inl (.int a2)), (3, .inl (.int y1)), (4, .inl (.int (0 : Int32)))]) rfl rfl ⟨rfl, rfl, rfl, rfl, rfl, trivial⟩ ?_
  exact lp5 m (Nat.le_refl _) _ _ K4
noncomputable def F_X5_drawable (h : zH) (q0 : Nat) : Int32 := (letf (F_X5_drawableMany h q0) (fun y1 => y1))
theorem x_X5_drawable {scr : List zV} {T : List Nat} {h : zH} {q0 : Nat} (hsc : cT scr) (K : hOK kty T h) (hq_q0 : T[q0]? = some 5) (hh : cH h) : xI scr 172 [.inl (.ref q0)] h (F_X5_drawable h q0) := by
  refine xI_intro (E := ze_X5_drawable) hsc rfl (cTb_ok rfl) hh (fun d r h' G HG Pf hR m => ?_)
  have K := kOK_refl (W := []) K
  unfold F_X5_drawable
  show G m _ (0, [(0, .inl (.ref q0))], [], h, 0, 0)
  refine k_steps HG 1 (zB_iff.mpr (?_ : G m _ (1, [(0, .inl (.ref q0))], [.inl (.ref q0)], h, 0, 0)))
  refine k_cVI HG (E' := ze_X5_drawableMany) (Or.inl ⟨rfl, rfl⟩) hsc rfl rfl rfl rfl rfl (fun hh => x_X5_drawableMany hsc K.1 hq_q0 hh) (fun y1 => (?_ : G m _ (4, [(0, .inl (.ref q0))], [.inl (.int y1)], h, 0, 0)))
  exact k_reti HG rfl rfl (fun e1 e2 => hR _ e1 e2)
def W_X5_drawn : List (Nat × Nat) := [(5, 15)]
noncomputable def B_X5_drawn_11 (h : zH) (c0 : Nat) (s : (Int32 × Int32)) : (Int32 × Int32) ⊕ (Int32 × zH) := (letf (F_X5_canDraw h c0 s.2) (fun y1001 => (if y1001 = (0 : Int32) then (Sum.inl (s.1, (s.2 + (1 : Int32)))) else (if (0 : Int32) < s.1 then (Sum.inl ((s.1 + (-1 : Int32)), (s.2 + (1 : Int32)))) else (Sum.inr (s.2, h))))))
noncomputable def F_X5_drawn (h : zH) (q0 : Nat) : Int32 × zH := (letf (F_X5_drawableMany h q0) (fun y1 => (letf (F_X5_below h q0 y1) (fun y2 => (fx (B_X5_drawn_11 y2.2 q0) (0, []) (y2.1, (1 : Int32)))))))
theorem x_X5_drawn {scr : List zV} {T : List Nat} {h : zH} {q0 : Nat} (hsc : cT scr) (K : hOK kty T h) (hq_q0 : T[q0]? = some 5) (hh : cH h) : xIH scr W_X5_drawn T T 174 [.inl (.ref q0)] h (F_X5_drawn h q0) := by
  refine xIH_intro (E := ze_X5_drawn) hsc rfl (cTb_ok rfl) hh (fun d r h' G HG Pf hR m => ?_)
  have K := kOK_refl (W := W_X5_drawn) K
  unfold F_X5_drawn
  show G m _ (0, [(0, .inl (.ref q0))], [], h, 0, 0)
  refine k_steps HG 2 (zB_iff.mpr (?_ : G m _ (2, [(0, .inl (.ref q0))], [.inl (.ref q0), .inl (.ref q0)], h, 0, 0)))
  refine k_cVI HG (E' := ze_X5_drawableMany) (Or.inl ⟨rfl, rfl⟩) hsc rfl rfl rfl rfl rfl (fun hh => x_X5_drawableMany hsc K.1 hq_q0 hh) (fun y1 => (?_ : G m _ (5, [(0, .inl (.ref q0))], [.inl (.int y1), .inl (.ref q0)], h, 0, 0)))
  refine k_cVIH HG (E' := ze_X5_below) (Or.inl ⟨rfl, rfl⟩) hsc rfl rfl rfl rfl rfl K rfl (fun hh => x_X5_below hsc K.1 hq_q0 hh) (fun y2 K2 => (?_ : G m _ (8, [(0, .inl (.ref q0))], [.inl (.int y2.1)], y2.2, 0, 0)))
  refine k_steps HG 3 (zB_iff.mpr (?_ : G m _ (11, [(2, .inl (.int (1 : Int32))), (1, .inl (.int y2.1)), (0, .inl (.ref q0))], [], y2.2, 0, 0)))
  have lp3 : ∀ m3, m3 ≤ m → ∀ (v3_1 : Int32) (v3_2 : Int32), G m3 (Pf (fx (B_X5_drawn_11 y2.2 q0) (0, []) (v3_1, v3_2))) (11, [(0, .inl (.ref q0)), (1, .inl (.int v3_1)), (2, .inl (.int v3_2))], [], y2.2, 0, 0) := by
    intro m3
    induction m3 with
    | zero =>
      intros
      exact k_zero HG
    | succ m3 ih3 =>
      intro le3 v3_1 v3_2
      have le3 := Nat.le_of_succ_le le3
      have ih3 := ih3 le3
      refine k_fx ?_
      rw [B_X5_drawn_11]
      refine k_first HG 1 (zB_iff.mpr (?_ : G m3 _ (13, [(0, .inl (.ref q0)), (1, .inl (.int v3_1)), (2, .inl (.int v3_2))], [.inl (.int v3_2), .inl (.ref q0)], y2.2, 0, 0)))
      refine k_cVI HG (E' := ze_X5_canDraw) (Or.inl ⟨rfl, rfl⟩) hsc rfl rfl rfl rfl rfl (fun hh => x_X5_canDraw hsc K2.1 hq_q0 hh) (fun y4 => (?_ : G m3 _ (16, [(0, .inl (.ref q0)), (1, .inl (.int v3_1)), (2, .inl (.int v3_2))], [.inl (.int y4)], y2.2, 0, 0)))
      refine k_steps HG 1 (kb_eq (x := y4) (y := (0 : Int32)) ?_ ?_)
      · show G m3 _ (26, [(0, .inl (.ref q0)), (1, .inl (.int v3_1)), (2, .inl (.int v3_2))], [], y2.2, 0, 0)
        refine k_steps HG 2 (zB_iff.mpr (?_ : G m3 _ (11, [(2, .inl (.int (v3_2 + (1 : Int32)))), (0, .inl (.ref q0)), (1, .inl (.int v3_1))], [], y2.2, 0, 0)))
        refine k_ext HG (L' := [(0, .inl (.ref q0)), (1, .inl (.int v3_1)), (2, .inl (.int (v3_2 + (1 : Int32))))]) rfl rfl ⟨rfl, rfl, rfl, trivial⟩ ?_
        exact ih3 _ _
      · show G m3 _ (19, [(0, .inl (.ref q0)), (1, .inl (.int v3_1)), (2, .inl (.int v3_2))], [], y2.2, 0, 0)
        refine k_steps HG 3 (kb_le (x := v3_1) (y := (0 : Int32)) ?_ ?_)
        · show G m3 _ (32, [(1, .inl (.int (v3_1 + (-1 : Int32)))), (0, .inl (.ref q0)), (2, .inl (.int v3_2))], [], y2.2, 0, 0)
          refine k_steps HG 1 (zB_iff.mpr (?_ : G m3 _ (33, [(1, .inl (.int (v3_1 + (-1 : Int32)))), (0, .inl (.ref q0)), (2, .inl (.int v3_2))], [.inl (.int v3_2)], y2.2, 0, 0)))
          exact k_reti HG rfl rfl (fun e1 e2 => hR _ _ e1 e2 K2)
        · show G m3 _ (26, [(1, .inl (.int (v3_1 + (-1 : Int32)))), (0, .inl (.ref q0)), (2, .inl (.int v3_2))], [], y2.2, 0, 0)
          refine k_steps HG 2 (zB_iff.mpr (?_ : G m3 _ (11, [(2, .inl (.int (v3_2 + (1 : Int32)))), (1, .inl (.int (v3_1 + (-1 : Int32)))), (0, .inl (.ref q0))], [], y2.2, 0, 0)))
          refine k_ext HG (L' := [(0, .inl (.ref q0)), (1, .inl (.int (v3_1 + (-1 : Int32)))), (2, .inl (.int (v3_2 + (1 : Int32))))]) rfl rfl ⟨rfl, rfl, rfl, trivial⟩ ?_
          exact ih3 _ _
  refine k_ext HG (L' := [(0, .inl (.ref q0)), (1, .inl (.int y2.1)), (2, .inl (.int (1 : Int32)))]) rfl rfl ⟨rfl, rfl, rfl, trivial⟩ ?_
  exact lp3 m (Nat.le_refl _) _ _
noncomputable def B_X5_status_116 (h : zH) (c0 : Nat) (c1 : Int32) (s : (Int32 × Int32)) : (Int32 × Int32) ⊕ (Int32) := (if s.2 < (8 : Int32) then (if (hv h (hr h c0 0) s.2.toNatClampNeg) = (0 : Int32) then (Sum.inl ((s.1 + (0 : Int32)), (s.2 + (1 : Int32)))) else (Sum.inl ((s.1 + (1 : Int32)), (s.2 + (1 : Int32))))) else (Sum.inr s.1))
noncomputable def F_X5_status (h : zH) (q0 : Nat) (a1 : Int32) : Int32 := (if a1 = (0 : Int32) then (hv h q0 9) else (if a1 = (1 : Int32) then (hv h q0 10) else (if a1 = (2 : Int32) then (letf (F_X5_inside h q0) (fun y4 => y4)) else (if a1 = (3 : Int32) then (hv h q0 13) else (if a1 = (4 : Int32) then (hv h q0 17) else (if a1 = (5 : Int32) then (letf (F_X5_standing h q0) (fun y5 => y5)) else (if a1 = (6 : Int32) then (hv h q0 23) else (if a1 = (7 : Int32) then (hv h q0 14) else (if a1 = (8 : Int32) then (hv h q0 7) else (if a1 = (9 : Int32) then (hv h q0 15) else (if a1 = (10 : Int32) then (fx (B_X5_status_116 h q0 a1) 0 ((0 : Int32), (0 : Int32))) else (if a1 = (11 : Int32) then (letf (F_X5_drawableMany h q0) (fun y8 => y8)) else (letf (F_X5_in (Int32.toInt64 a1) (12 : Int64) (16 : Int64)) (fun y2 => (if y2 = (0 : Int32) then (-1 : Int32) else (hv h (hr h q0 8) (a1 - (10 : Int32)).toNatClampNeg))))))))))))))))
theorem x_X5_status {scr : List zV} {T : List Nat} {h : zH} {q0 : Nat} {a1 : Int32} (hsc : cT scr) (K : hOK kty T h) (hq_q0 : T[q0]? = some 5) (hh : cH h) : xI scr 228 [.inl (.ref q0), .inl (.int a1)] h (F_X5_status h q0 a1) := by
  refine xI_intro (E := ze_X5_status) hsc rfl (cTb_ok rfl) hh (fun d r h' G HG Pf hR m => ?_)
  have K := kOK_refl (W := []) K
  unfold F_X5_status
  show G m _ (0, [(0, .inl (.ref q0)), (1, .inl (.int a1))], [], h, 0, 0)
  refine k_steps HG 3 (zB_iff.mpr (?_ : G m _ (3, [(2, .inl (.int (0 : Int32))), (0, .inl (.ref q0)), (1, .inl (.int a1))], [.inl (.int a1)], h, 0, 0)))
  refine g_tsw (k_walk HG) (d := 149) (lo := 0) (hi := 11) (offs := #[61, 66, 71, 76, 81, 86, 91, 96, 101, 106, 111, 144]) rfl (x := a1) rfl (fun hs1 => zB_iff.mpr ?_) (And.intro (fun hs1 => zB_iff.mpr ?_) (And.intro (fun hs1 => zB_iff.mpr ?_) (And.intro (fun hs1 => zB_iff.mpr ?_) (And.intro (fun hs1 => zB_iff.mpr ?_) (And.intro (fun hs1 => zB_iff.mpr ?_) (And.intro (fun hs1 => zB_iff.mpr ?_) (And.intro (fun hs1 => zB_iff.mpr ?_) (And.intro (fun hs1 => zB_iff.mpr ?_) (And.intro (fun hs1 => zB_iff.mpr ?_) (And.intro (fun hs1 => zB_iff.mpr ?_) (And.intro (fun hs1 => zB_iff.mpr ?_) (And.intro (fun hs1 => zB_iff.mpr ?_) trivial))))))))))))
  · show G m _ (152, [(2, .inl (.int (0 : Int32))), (0, .inl (.ref q0)), (1, .inl (.int a1))], [], h, 0, 0)
    refine k_neg (k_swn (lo := 0) (hi := 11) hs1 (by decide)) ?_
    refine k_neg (k_swn (lo := 0) (hi := 11) hs1 (by decide)) ?_
    refine k_neg (k_swn (lo := 0) (hi := 11) hs1 (by decide)) ?_
    refine k_neg (k_swn (lo := 0) (hi := 11) hs1 (by decide)) ?_
    refine k_neg (k_swn (lo := 0) (hi := 11) hs1 (by decide)) ?_
    refine k_neg (k_swn (lo := 0) (hi := 11) hs1 (by decide)) ?_
    refine k_neg (k_swn (lo := 0) (hi := 11) hs1 (by decide)) ?_
    refine k_neg (k_swn (lo := 0) (hi := 11) hs1 (by decide)) ?_
    refine k_neg (k_swn (lo := 0) (hi := 11) hs1 (by decide)) ?_
    refine k_neg (k_swn (lo := 0) (hi := 11) hs1 (by decide)) ?_
    refine k_neg (k_swn (lo := 0) (hi := 11) hs1 (by decide)) ?_
    refine k_neg (k_swn (lo := 0) (hi := 11) hs1 (by decide)) ?_
    refine k_steps HG 4 (zB_iff.mpr (?_ : G m _ (160, [(2, .inl (.int (0 : Int32))), (0, .inl (.ref q0)), (1, .inl (.int a1))], [.inl (.long (16 : Int64)), .inl (.long (12 : Int64)), .inl (.long (Int32.toInt64 a1))], h, 0, 0)))
    refine k_cSI HG (E' := ze_X5_in) (Or.inl rfl) hsc rfl rfl rfl rfl (fun hh => x_X5_in hsc hh) (fun y2 => (?_ : G m _ (163, [(2, .inl (.int (0 : Int32))), (0, .inl (.ref q0)), (1, .inl (.int a1))], [.inl (.int y2)], h, 0, 0)))
    refine k_steps HG 1 (kb_eq (x := y2) (y := (0 : Int32)) ?_ ?_)
    · show G m _ (178, [(2, .inl (.int (0 : Int32))), (0, .inl (.ref q0)), (1, .inl (.int a1))], [], h, 0, 0)
      refine k_steps HG 1 (zB_iff.mpr (?_ : G m _ (179, [(2, .inl (.int (0 : Int32))), (0, .inl (.ref q0)), (1, .inl (.int a1))], [.inl (.int (-1 : Int32))], h, 0, 0)))
      exact k_reti HG rfl rfl (fun e1 e2 => hR _ e1 e2)
    · show G m _ (166, [(2, .inl (.int (0 : Int32))), (0, .inl (.ref q0)), (1, .inl (.int a1))], [], h, 0, 0)
      refine k_steps HG 1 (zB_iff.mpr (?_ : G m _ (167, [(2, .inl (.int (0 : Int32))), (0, .inl (.ref q0)), (1, .inl (.int a1))], [.inl (.ref q0)], h, 0, 0)))
      refine k_getR HG rfl K hq_q0 rfl (Nat.le_of_ble_eq_true rfl) rfl rfl (fun t3 => (?_ : G m _ (170, [(2, .inl (.int (0 : Int32))), (0, .inl (.ref q0)), (1, .inl (.int a1))], [.inl (.ref (hr h q0 8))], h, 0, 0)))
      refine k_steps HG 3 (zB_iff.mpr (?_ : G m _ (174, [(2, .inl (.int (0 : Int32))), (0, .inl (.ref q0)), (1, .inl (.int a1))], [.inl (.int (a1 - (10 : Int32))), .inl (.ref (hr h q0 8))], h, 0, 0)))
      refine k_iald HG rfl K t3 rfl (fun _ => rfl) (?_ : G m _ (175, [(2, .inl (.int (0 : Int32))), (0, .inl (.ref q0)), (1, .inl (.int a1))], [.inl (.int (hv h (hr h q0 8) (a1 - (10 : Int32)).toNatClampNeg))], h, 0, 0))
      refine k_steps HG 1 (zB_iff.mpr (?_ : G m _ (179, [(2, .inl (.int (0 : Int32))), (0, .inl (.ref q0)), (1, .inl (.int a1))], [.inl (.int (hv h (hr h q0 8) (a1 - (10 : Int32)).toNatClampNeg))], h, 0, 0)))
      exact k_reti HG rfl rfl (fun e1 e2 => hR _ e1 e2)
  · show G m _ (64, [(2, .inl (.int (0 : Int32))), (0, .inl (.ref q0)), (1, .inl (.int a1))], [], h, 0, 0)
    have hs1 : a1 = (0 : Int32) := k_sw hs1 rfl
    refine k_pos hs1 ?_
    refine k_steps HG 1 (zB_iff.mpr (?_ : G m _ (65, [(2, .inl (.int (0 : Int32))), (0, .inl (.ref q0)), (1, .inl (.int a1))], [.inl (.ref q0)], h, 0, 0)))
    refine k_getI HG rfl K hq_q0 rfl (Nat.le_of_ble_eq_true rfl) rfl (?_ : G m _ (68, [(2, .inl (.int (0 : Int32))), (0, .inl (.ref q0)), (1, .inl (.int a1))], [.inl (.int (hv h q0 9))], h, 0, 0))
    exact k_reti HG rfl rfl (fun e1 e2 => hR _ e1 e2)
  · show G m _ (69, [(2, .inl (.int (0 : Int32))), (0, .inl (.ref q0)), (1, .inl (.int a1))], [], h, 0, 0)
    have hs1 : a1 = (1 : Int32) := k_sw hs1 rfl
    refine k_neg (by rw [hs1]; decide) ?_
    refine k_pos hs1 ?_
    refine k_steps HG 1 (zB_iff.mpr (?_ : G m _ (70, [(2, .inl (.int (0 : Int32))), (0, .inl (.ref q0)), (1, .inl (.int a1))], [.inl (.ref q0)], h, 0, 0)))
    refine k_getI HG rfl K hq_q0 rfl (Nat.le_of_ble_eq_true rfl) rfl (?_ : G m _ (73, [(2, .inl (.int (0 : Int32))), (0, .inl (.ref q0)), (1, .inl (.int a1))], [.inl (.int (hv h q0 10))], h, 0, 0))
    exact k_reti HG rfl rfl (fun e1 e2 => hR _ e1 e2)
  · show G m _ (74, [(2, .inl (.int (0 : Int32))), (0, .inl (.ref q0)), (1, .inl (.int a1))], [], h, 0, 0)
    have hs1 : a1 = (2 : Int32) := k_sw hs1 rfl
    refine k_neg (by rw [hs1]; decide) ?_
    refine k_neg (by rw [hs1]; decide) ?_
    refine k_pos hs1 ?_
    refine k_steps HG 1 (zB_iff.mpr (?_ : G m _ (75, [(2, .inl (.int (0 : Int32))), (0, .inl (.ref q0)), (1, .inl (.int a1))], [.inl (.ref q0)], h, 0, 0)))
    refine k_cVI HG (E' := ze_X5_inside) (Or.inl ⟨rfl, rfl⟩) hsc rfl rfl rfl rfl rfl (fun hh => x_X5_inside hsc K.1 hq_q0 hh) (fun y4 => (?_ : G m _ (78, [(2, .inl (.int (0 : Int32))), (0, .inl (.ref q0)), (1, .inl (.int a1))], [.inl (.int y4)], h, 0, 0)))
    exact k_reti HG rfl rfl (fun e1 e2 => hR _ e1 e2)
  · show G m _ (79, [(2, .inl (.int (0 : Int32))), (0, .inl (.ref q0)), (1, .inl (.int a1))], [], h, 0, 0)
    have hs1 : a1 = (3 : Int32) := k_sw hs1 rfl
    refine k_neg (by rw [hs1]; decide) ?_
    refine k_neg (by rw [hs1]; decide) ?_
    refine k_neg (by rw [hs1]; decide) ?_
    refine k_pos hs1 ?_
    refine k_steps HG 1 (zB_iff.mpr (?_ : G m _ (80, [(2, .inl (.int (0 : Int32))), (0, .inl (.ref q0)), (1, .inl (.int a1))], [.inl (.ref q0)], h, 0, 0)))
    refine k_getI HG rfl K hq_q0 rfl (Nat.le_of_ble_eq_true rfl) rfl (?_ : G m _ (83, [(2, .inl (.int (0 : Int32))), (0, .inl (.ref q0)), (1, .inl (.int a1))], [.inl (.int (hv h q0 13))], h, 0, 0))
    exact k_reti HG rfl rfl (fun e1 e2 => hR _ e1 e2)
  · show G m _ (84, [(2, .inl (.int (0 : Int32))), (0, .inl (.ref q0)), (1, .inl (.int a1))], [], h, 0, 0)
    have hs1 : a1 = (4 : Int32) := k_sw hs1 rfl
    refine k_neg (by rw [hs1]; decide) ?_
    refine k_neg (by rw [hs1]; decide) ?_
    refine k_neg (by rw [hs1]; decide) ?_
    refine k_neg (by rw [hs1]; decide) ?_
    refine k_pos hs1 ?_
    refine k_steps HG 1 (zB_iff.mpr (?_ : G m _ (85, [(2, .inl (.int (0 : Int32))), (0, .inl (.ref q0)), (1, .inl (.int a1))], [.inl (.ref q0)], h, 0, 0)))
    refine k_getI HG rfl K hq_q0 rfl (Nat.le_of_ble_eq_true rfl) rfl (?_ : G m _ (88, [(2, .inl (.int (0 : Int32))), (0, .inl (.ref q0)), (1, .inl (.int a1))], [.inl (.int (hv h q0 17))], h, 0, 0))
    exact k_reti HG rfl rfl (fun e1 e2 => hR _ e1 e2)
  · show G m _ (89, [(2, .inl (.int (0 : Int32))), (0, .inl (.ref q0)), (1, .inl (.int a1))], [], h, 0, 0)
    have hs1 : a1 = (5 : Int32) := k_sw hs1 rfl
    refine k_neg (by rw [hs1]; decide) ?_
    refine k_neg (by rw [hs1]; decide) ?_
    refine k_neg (by rw [hs1]; decide) ?_
    refine k_neg (by rw [hs1]; decide) ?_
    refine k_neg (by rw [hs1]; decide) ?_
    refine k_pos hs1 ?_
    refine k_steps HG 1 (zB_iff.mpr (?_ : G m _ (90, [(2, .inl (.int (0 : Int32))), (0, .inl (.ref q0)), (1, .inl (.int a1))], [.inl (.ref q0)], h, 0, 0)))
    refine k_cVI HG (E' := ze_X5_standing) (Or.inl ⟨rfl, rfl⟩) hsc rfl rfl rfl rfl rfl (fun hh => x_X5_standing hsc K.1 hq_q0 hh) (fun y5 => (?_ : G m _ (93, [(2, .inl (.int (0 : Int32))), (0, .inl (.ref q0)), (1, .inl (.int a1))], [.inl (.int y5)], h, 0, 0)))
    exact k_reti HG rfl rfl (fun e1 e2 => hR _ e1 e2)
  · show G m _ (94, [(2, .inl (.int (0 : Int32))), (0, .inl (.ref q0)), (1, .inl (.int a1))], [], h, 0, 0)
    have hs1 : a1 = (6 : Int32) := k_sw hs1 rfl
    refine k_neg (by rw [hs1]; decide) ?_
    refine k_neg (by rw [hs1]; decide) ?_
    refine k_neg (by rw [hs1]; decide) ?_
    refine k_neg (by rw [hs1]; decide) ?_
    refine k_neg (by rw [hs1]; decide) ?_
    refine k_neg (by rw [hs1]; decide) ?_
    refine k_pos hs1 ?_
    refine k_steps HG 1 (zB_iff.mpr (?_ : G m _ (95, [(2, .inl (.int (0 : Int32))), (0, .inl (.ref q0)), (1, .inl (.int a1))], [.inl (.ref q0)], h, 0, 0)))
    refine k_getI HG rfl K hq_q0 rfl (Nat.le_of_ble_eq_true rfl) rfl (?_ : G m _ (98, [(2, .inl (.int (0 : Int32))), (0, .inl (.ref q0)), (1, .inl (.int a1))], [.inl (.int (hv h q0 23))], h, 0, 0))
    exact k_reti HG rfl rfl (fun e1 e2 => hR _ e1 e2)
  · show G m _ (99, [(2, .inl (.int (0 : Int32))), (0, .inl (.ref q0)), (1, .inl (.int a1))], [], h, 0, 0)
    have hs1 : a1 = (7 : Int32) := k_sw hs1 rfl
    refine k_neg (by rw [hs1]; decide) ?_
    refine k_neg (by rw [hs1]; decide) ?_
    refine k_neg (by rw [hs1]; decide) ?_
    refine k_neg (by rw [hs1]; decide) ?_
    refine k_neg (by rw [hs1]; decide) ?_
    refine k_neg (by rw [hs1]; decide) ?_
    refine k_neg (by rw [hs1]; decide) ?_
    refine k_pos hs1 ?_
    refine k_steps HG 1 (zB_iff.mpr (?_ : G m _ (100, [(2, .inl (.int (0 : Int32))), (0, .inl (.ref q0)), (1, .inl (.int a1))], [.inl (.ref q0)], h, 0, 0)))
    refine k_getI HG rfl K hq_q0 rfl (Nat.le_of_ble_eq_true rfl) rfl (?_ : G m _ (103, [(2, .inl (.int (0 : Int32))), (0, .inl (.ref q0)), (1, .inl (.int a1))], [.inl (.int (hv h q0 14))], h, 0, 0))
    exact k_reti HG rfl rfl (fun e1 e2 => hR _ e1 e2)
  · show G m _ (104, [(2, .inl (.int (0 : Int32))), (0, .inl (.ref q0)), (1, .inl (.int a1))], [], h, 0, 0)
    have hs1 : a1 = (8 : Int32) := k_sw hs1 rfl
    refine k_neg (by rw [hs1]; decide) ?_
    refine k_neg (by rw [hs1]; decide) ?_
    refine k_neg (by rw [hs1]; decide) ?_
    refine k_neg (by rw [hs1]; decide) ?_
    refine k_neg (by rw [hs1]; decide) ?_
    refine k_neg (by rw [hs1]; decide) ?_
    refine k_neg (by rw [hs1]; decide) ?_
    refine k_neg (by rw [hs1]; decide) ?_
    refine k_pos hs1 ?_
    refine k_steps HG 1 (zB_iff.mpr (?_ : G m _ (105, [(2, .inl (.int (0 : Int32))), (0, .inl (.ref q0)), (1, .inl (.int a1))], [.inl (.ref q0)], h, 0, 0)))
    refine k_getI HG rfl K hq_q0 rfl (Nat.le_of_ble_eq_true rfl) rfl (?_ : G m _ (108, [(2, .inl (.int (0 : Int32))), (0, .inl (.ref q0)), (1, .inl (.int a1))], [.inl (.int (hv h q0 7))], h, 0, 0))
    exact k_reti HG rfl rfl (fun e1 e2 => hR _ e1 e2)
  · show G m _ (109, [(2, .inl (.int (0 : Int32))), (0, .inl (.ref q0)), (1, .inl (.int a1))], [], h, 0, 0)
    have hs1 : a1 = (9 : Int32) := k_sw hs1 rfl
    refine k_neg (by rw [hs1]; decide) ?_
    refine k_neg (by rw [hs1]; decide) ?_
    refine k_neg (by rw [hs1]; decide) ?_
    refine k_neg (by rw [hs1]; decide) ?_
    refine k_neg (by rw [hs1]; decide) ?_
    refine k_neg (by rw [hs1]; decide) ?_
    refine k_neg (by rw [hs1]; decide) ?_
    refine k_neg (by rw [hs1]; decide) ?_
    refine k_neg (by rw [hs1]; decide) ?_
    refine k_pos hs1 ?_
    refine k_steps HG 1 (zB_iff.mpr (?_ : G m _ (110, [(2, .inl (.int (0 : Int32))), (0, .inl (.ref q0)), (1, .inl (.int a1))], [.inl (.ref q0)], h, 0, 0)))
    refine k_getI HG rfl K hq_q0 rfl (Nat.le_of_ble_eq_true rfl) rfl (?_ : G m _ (113, [(2, .inl (.int (0 : Int32))), (0, .inl (.ref q0)), (1, .inl (.int a1))], [.inl (.int (hv h q0 15))], h, 0, 0))
    exact k_reti HG rfl rfl (fun e1 e2 => hR _ e1 e2)
  · show G m _ (114, [(2, .inl (.int (0 : Int32))), (0, .inl (.ref q0)), (1, .inl (.int a1))], [], h, 0, 0)
    have hs1 : a1 = (10 : Int32) := k_sw hs1 rfl
    refine k_neg (by rw [hs1]; decide) ?_
    refine k_neg (by rw [hs1]; decide) ?_
    refine k_neg (by rw [hs1]; decide) ?_
    refine k_neg (by rw [hs1]; decide) ?_
    refine k_neg (by rw [hs1]; decide) ?_
    refine k_neg (by rw [hs1]; decide) ?_
    refine k_neg (by rw [hs1]; decide) ?_
    refine k_neg (by rw [hs1]; decide) ?_
    refine k_neg (by rw [hs1]; decide) ?_
    refine k_neg (by rw [hs1]; decide) ?_
    refine k_pos hs1 ?_
    refine k_steps HG 2 (zB_iff.mpr (?_ : G m _ (116, [(3, .inl (.int (0 : Int32))), (2, .inl (.int (0 : Int32))), (0, .inl (.ref q0)), (1, .inl (.int a1))], [], h, 0, 0)))
    have lp6 : ∀ m6, m6 ≤ m → ∀ (v6_2 : Int32) (v6_3 : Int32), G m6 (Pf (fx (B_X5_status_116 h q0 a1) 0 (v6_2, v6_3))) (116, [(0, .inl (.ref q0)), (1, .inl (.int a1)), (2, .inl (.int v6_2)), (3, .inl (.int v6_3))], [], h, 0, 0) := by
      intro m6
      induction m6 with
      | zero =>
        intros
        exact k_zero HG
      | succ m6 ih6 =>
        intro le6 v6_2 v6_3
        have le6 := Nat.le_of_succ_le le6
        have ih6 := ih6 le6
        refine k_fx ?_
        rw [B_X5_status_116]
        refine k_first HG 2 (kb_ge (x := v6_3) (y := (8 : Int32)) ?_ ?_)
        · show G m6 _ (145, [(0, .inl (.ref q0)), (1, .inl (.int a1)), (2, .inl (.int v6_2)), (3, .inl (.int v6_3))], [], h, 0, 0)
          refine k_steps HG 1 (zB_iff.mpr (?_ : G m6 _ (146, [(0, .inl (.ref q0)), (1, .inl (.int a1)), (2, .inl (.int v6_2)), (3, .inl (.int v6_3))], [.inl (.int v6_2)], h, 0, 0)))
          exact k_reti HG rfl rfl (fun e1 e2 => hR _ e1 e2)
        · show G m6 _ (122, [(0, .inl (.ref q0)), (1, .inl (.int a1)), (2, .inl (.int v6_2)), (3, .inl (.int v6_3))], [], h, 0, 0)
          refine k_steps HG 2 (zB_iff.mpr (?_ : G m6 _ (124, [(0, .inl (.ref q0)), (1, .inl (.int a1)), (2, .inl (.int v6_2)), (3, .inl (.int v6_3))], [.inl (.ref q0), .inl (.int v6_2)], h, 0, 0)))
          refine k_getR HG rfl K hq_q0 rfl (Nat.le_of_ble_eq_true rfl) rfl rfl (fun t7 => (?_ : G m6 _ (127, [(0, .inl (.ref q0)), (1, .inl (.int a1)), (2, .inl (.int v6_2)), (3, .inl (.int v6_3))], [.inl (.ref (hr h q0 0)), .inl (.int v6_2)], h, 0, 0)))
          refine k_steps HG 1 (zB_iff.mpr (?_ : G m6 _ (128, [(0, .inl (.ref q0)), (1, .inl (.int a1)), (2, .inl (.int v6_2)), (3, .inl (.int v6_3))], [.inl (.int v6_3), .inl (.ref (hr h q0 0)), .inl (.int v6_2)], h, 0, 0)))
          refine k_iald HG rfl K t7 rfl (fun _ => rfl) (?_ : G m6 _ (129, [(0, .inl (.ref q0)), (1, .inl (.int a1)), (2, .inl (.int v6_2)), (3, .inl (.int v6_3))], [.inl (.int (hv h (hr h q0 0) v6_3.toNatClampNeg)), .inl (.int v6_2)], h, 0, 0))
          refine k_steps HG 1 (kb_eq (x := (hv h (hr h q0 0) v6_3.toNatClampNeg)) (y := (0 : Int32)) ?_ ?_)
          · show G m6 _ (136, [(0, .inl (.ref q0)), (1, .inl (.int a1)), (2, .inl (.int v6_2)), (3, .inl (.int v6_3))], [.inl (.int v6_2)], h, 0, 0)
            refine k_steps HG 5 (zB_iff.mpr (?_ : G m6 _ (116, [(3, .inl (.int (v6_3 + (1 : Int32)))), (2, .inl (.int (v6_2 + (0 : Int32)))), (0, .inl (.ref q0)), (1, .inl (.int a1))], [], h, 0, 0)))
            refine k_ext HG (L' := [(0, .inl (.ref q0)), (1, .inl (.int a1)), (2, .inl (.int (v6_2 + (0 : Int32)))), (3, .inl (.int (v6_3 + (1 : Int32))))]) rfl rfl ⟨rfl, rfl, rfl, rfl, trivial⟩ ?_
            exact ih6 _ _
          · show G m6 _ (132, [(0, .inl (.ref q0)), (1, .inl (.int a1)), (2, .inl (.int v6_2)), (3, .inl (.int v6_3))], [.inl (.int v6_2)], h, 0, 0)
            refine k_steps HG 6 (zB_iff.mpr (?_ : G m6 _ (116, [(3, .inl (.int (v6_3 + (1 : Int32)))), (2, .inl (.int (v6_2 + (1 : Int32)))), (0, .inl (.ref q0)), (1, .inl (.int a1))], [], h, 0, 0)))
            refine k_ext HG (L' := [(0, .inl (.ref q0)), (1, .inl (.int a1)), (2, .inl (.int (v6_2 + (1 : Int32)))), (3, .inl (.int (v6_3 + (1 : Int32))))]) rfl rfl ⟨rfl, rfl, rfl, rfl, trivial⟩ ?_
            exact ih6 _ _
    refine k_ext HG (L' := [(0, .inl (.ref q0)), (1, .inl (.int a1)), (2, .inl (.int (0 : Int32))), (3, .inl (.int (0 : Int32)))]) rfl rfl ⟨rfl, rfl, rfl, rfl, trivial⟩ ?_
    exact lp6 m (Nat.le_refl _) _ _
  · show G m _ (147, [(2, .inl (.int (0 : Int32))), (0, .inl (.ref q0)), (1, .inl (.int a1))], [], h, 0, 0)
    have hs1 : a1 = (11 : Int32) := k_sw hs1 rfl
    refine k_neg (by rw [hs1]; decide) ?_
    refine k_neg (by rw [hs1]; decide) ?_
    refine k_neg (by rw [hs1]; decide) ?_
    refine k_neg (by rw [hs1]; decide) ?_
    refine k_neg (by rw [hs1]; decide) ?_
    refine k_neg (by rw [hs1]; decide) ?_
    refine k_neg (by rw [hs1]; decide) ?_
    refine k_neg (by rw [hs1]; decide) ?_
    refine k_neg (by rw [hs1]; decide) ?_
    refine k_neg (by rw [hs1]; decide) ?_
    refine k_neg (by rw [hs1]; decide) ?_
    refine k_pos hs1 ?_
    refine k_steps HG 1 (zB_iff.mpr (?_ : G m _ (148, [(2, .inl (.int (0 : Int32))), (0, .inl (.ref q0)), (1, .inl (.int a1))], [.inl (.ref q0)], h, 0, 0)))
    refine k_cVI HG (E' := ze_X5_drawableMany) (Or.inl ⟨rfl, rfl⟩) hsc rfl rfl rfl rfl rfl (fun hh => x_X5_drawableMany hsc K.1 hq_q0 hh) (fun y8 => (?_ : G m _ (151, [(2, .inl (.int (0 : Int32))), (0, .inl (.ref q0)), (1, .inl (.int a1))], [.inl (.int y8)], h, 0, 0)))
    exact k_reti HG rfl rfl (fun e1 e2 => hR _ e1 e2)
def W_X5_tells : List (Nat × Nat) := [(5, 28), (5, 29), (5, 30), (5, 31), (5, 32), (40, 1000)]
noncomputable def F_X5_tells (h : zH) (q0 : Nat) (a1 : Int32) (a2 : Int32) : Int32 × zH := (letf (F_X5_look h q0) (fun h1 => (letf (F_X5_number h1 q0 (0 : Int32) a1 a2) (fun y2 => (y2.1, y2.2)))))
theorem x_X5_tells {scr : List zV} {T : List Nat} {h : zH} {q0 : Nat} {a1 : Int32} {a2 : Int32} (hsc : cT scr) (K : hOK kty T h) (hq_q0 : T[q0]? = some 5) (hh : cH h) : xIH scr W_X5_tells T T 235 [.inl (.ref q0), .inl (.int a1), .inl (.int a2)] h (F_X5_tells h q0 a1 a2) := by
  refine xIH_intro (E := ze_X5_tells) hsc rfl (cTb_ok rfl) hh (fun d r h' G HG Pf hR m => ?_)
  have K := kOK_refl (W := W_X5_tells) K
  unfold F_X5_tells
  show G m _ (0, [(0, .inl (.ref q0)), (1, .inl (.int a1)), (2, .inl (.int a2))], [], h, 0, 0)
  refine k_steps HG 1 (zB_iff.mpr (?_ : G m _ (1, [(0, .inl (.ref q0)), (1, .inl (.int a1)), (2, .inl (.int a2))], [.inl (.ref q0)], h, 0, 0)))
  refine k_cVH HG (E' := ze_X5_look) (Or.inl ⟨rfl, rfl⟩) hsc rfl rfl rfl rfl rfl K rfl (fun hh => x_X5_look hsc K.1 hq_q0 hh) (fun h1 K1 => (?_ : G m _ (4, [(0, .inl (.ref q0)), (1, .inl (.int a1)), (2, .inl (.int a2))], [], h1, 0, 0)))
  refine k_steps HG 4 (zB_iff.mpr (?_ : G m _ (8, [(0, .inl (.ref q0)), (1, .inl (.int a1)), (2, .inl (.int a2))], [.inl (.int a2), .inl (.int a1), .inl (.int (0 : Int32)), .inl (.ref q0)], h1, 0, 0)))
  refine k_cVIH HG (E' := ze_X5_number) (Or.inl ⟨rfl, rfl⟩) hsc rfl rfl rfl rfl rfl K1 rfl (fun hh => x_X5_number hsc K1.1 hq_q0 hh) (fun y2 K2 => (?_ : G m _ (11, [(0, .inl (.ref q0)), (1, .inl (.int a1)), (2, .inl (.int a2))], [.inl (.int y2.1)], y2.2, 0, 0)))
  exact k_retz HG rfl rfl (fun e1 e2 => hR _ _ e1 e2 K2)
def W_X5_wins : List (Nat × Nat) := [(30, 1000)]
noncomputable def F_X5_wins (h : zH) (q0 : Nat) (a1 : Int32) : Int32 × zH := (letf (F_X5_in (Int32.toInt64 a1) (1 : Int64) (Int32.toInt64 (hv h q0 9))) (fun y1 => (if y1 = (0 : Int32) then (letf (F_X5_refuse h q0 (-2 : Int32)) (fun y5 => (y5.1, y5.2))) else (letf (F_X5_canDraw h q0 a1) (fun y2 => (if y2 = (0 : Int32) then (letf (F_X5_refuse h q0 (-5 : Int32)) (fun y3 => (y3.1, y3.2))) else (letf (F_X5_winsBy h q0 a1) (fun y4 => (y4, h)))))))))
theorem x_X5_wins {scr : List zV} {T : List Nat} {h : zH} {q0 : Nat} {a1 : Int32} (hsc : cT scr) (K : hOK kty T h) (hq_q0 : T[q0]? = some 5) (hh : cH h) : xIH scr W_X5_wins T T 242 [.inl (.ref q0), .inl (.int a1)] h (F_X5_wins h q0 a1) := by
  refine xIH_intro (E := ze_X5_wins) hsc rfl (cTb_ok rfl) hh (fun d r h' G HG Pf hR m => ?_)
  have K := kOK_refl (W := W_X5_wins) K
  unfold F_X5_wins
  show G m _ (0, [(0, .inl (.ref q0)), (1, .inl (.int a1))], [], h, 0, 0)
  refine k_steps HG 4 (zB_iff.mpr (?_ : G m _ (4, [(0, .inl (.ref q0)), (1, .inl (.int a1))], [.inl (.ref q0), .inl (.long (1 : Int64)), .inl (.long (Int32.toInt64 a1))], h, 0, 0)))
  refine k_getI HG rfl K hq_q0 rfl (Nat.le_of_ble_eq_true rfl) rfl (?_ : G m _ (7, [(0, .inl (.ref q0)), (1, .inl (.int a1))], [.inl (.int (hv h q0 9)), .inl (.long (1 : Int64)), .inl (.long (Int32.toInt64 a1))], h, 0, 0))
  refine k_steps HG 1 (zB_iff.mpr (?_ : G m _ (8, [(0, .inl (.ref q0)), (1, .inl (.int a1))], [.inl (.long (Int32.toInt64 (hv h q0 9))), .inl (.long (1 : Int64)), .inl (.long (Int32.toInt64 a1))], h, 0, 0)))
  refine k_cSI HG (E' := ze_X5_in) (Or.inl rfl) hsc rfl rfl rfl rfl (fun hh => x_X5_in hsc hh) (fun y1 => (?_ : G m _ (11, [(0, .inl (.ref q0)), (1, .inl (.int a1))], [.inl (.int y1)], h, 0, 0)))
  refine k_steps HG 1 (kb_ne (x := y1) (y := (0 : Int32)) ?_ ?_)
  · show G m _ (21, [(0, .inl (.ref q0)), (1, .inl (.int a1))], [], h, 0, 0)
    refine k_steps HG 2 (zB_iff.mpr (?_ : G m _ (23, [(0, .inl (.ref q0)), (1, .inl (.int a1))], [.inl (.int a1), .inl (.ref q0)], h, 0, 0)))
    refine k_cVI HG (E' := ze_X5_canDraw) (Or.inl ⟨rfl, rfl⟩) hsc rfl rfl rfl rfl rfl (fun hh => x_X5_canDraw hsc K.1 hq_q0 hh) (fun y2 => (?_ : G m _ (26, [(0, .inl (.ref q0)), (1, .inl (.int a1))], [.inl (.int y2)], h, 0, 0)))
    refine k_steps HG 1 (kb_eq (x := y2) (y := (0 : Int32)) ?_ ?_)
    · show G m _ (37, [(0, .inl (.ref q0)), (1, .inl (.int a1))], [], h, 0, 0)
      refine k_steps HG 2 (zB_iff.mpr (?_ : G m _ (40, [(0, .inl (.ref q0)), (1, .inl (.int a1))], [.inl (.int (-5 : Int32)), .inl (.ref q0)], h, 0, 0)))
      refine k_cVIH HG (E' := ze_X5_refuse) (Or.inl ⟨rfl, rfl⟩) hsc rfl rfl rfl rfl rfl K rfl (fun hh => x_X5_refuse hsc K.1 hq_q0 hh) (fun y3 K3 => (?_ : G m _ (43, [(0, .inl (.ref q0)), (1, .inl (.int a1))], [.inl (.int y3.1)], y3.2, 0, 0)))
      exact k_reti HG rfl rfl (fun e1 e2 => hR _ _ e1 e2 K3)
    · show G m _ (29, [(0, .inl (.ref q0)), (1, .inl (.int a1))], [], h, 0, 0)
      refine k_steps HG 2 (zB_iff.mpr (?_ : G m _ (31, [(0, .inl (.ref q0)), (1, .inl (.int a1))], [.inl (.int a1), .inl (.ref q0)], h, 0, 0)))
      refine k_cVI HG (E' := ze_X5_winsBy) (Or.inl ⟨rfl, rfl⟩) hsc rfl rfl rfl rfl rfl (fun hh => x_X5_winsBy hsc K.1 hq_q0 hh) (fun y4 => (?_ : G m _ (34, [(0, .inl (.ref q0)), (1, .inl (.int a1))], [.inl (.int y4)], h, 0, 0)))
      refine k_steps HG 1 (zB_iff.mpr (?_ : G m _ (43, [(0, .inl (.ref q0)), (1, .inl (.int a1))], [.inl (.int y4)], h, 0, 0)))
      exact k_reti HG rfl rfl (fun e1 e2 => hR _ _ e1 e2 K)
  · show G m _ (14, [(0, .inl (.ref q0)), (1, .inl (.int a1))], [], h, 0, 0)
    refine k_steps HG 2 (zB_iff.mpr (?_ : G m _ (17, [(0, .inl (.ref q0)), (1, .inl (.int a1))], [.inl (.int (-2 : Int32)), .inl (.ref q0)], h, 0, 0)))
    refine k_cVIH HG (E' := ze_X5_refuse) (Or.inl ⟨rfl, rfl⟩) hsc rfl rfl rfl rfl rfl K rfl (fun hh => x_X5_refuse hsc K.1 hq_q0 hh) (fun y5 K5 => (?_ : G m _ (20, [(0, .inl (.ref q0)), (1, .inl (.int a1))], [.inl (.int y5.1)], y5.2, 0, 0)))
    exact k_reti HG rfl rfl (fun e1 e2 => hR _ _ e1 e2 K5)
