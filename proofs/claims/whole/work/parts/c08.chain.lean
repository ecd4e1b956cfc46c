def hZ (h : zH) : zH := h ++ [(15, List.replicate 256 (.inl (.int 0)))]
theorem k_newZ {E : zE} {scr : List zV} {rc rs : Nat} {cc : zK} {r : Option zV} {h' : zH} {G : Nat → Prop → zS → Prop} {m : Nat} {α : Type} {Pf : α → Prop} {W : List (Nat × Nat)} {h0 : zH} {T0 T : List Nat} {pc nc ns : Nat} {L : zL} {st : List zV} {h : zH} {w : zV × Nat × Nat × Nat × Nat} {B : zH → α} (HG : G = GL E scr rc rs cc r h') (hf : zft (zEd E) pc = some (.newarray .boolean, w)) (K : kOK W T0 T h0 h) (kk : ∀ (h1 : zH) (T1 : List Nat), kOK W T0 T1 h0 h1 → T1[h.length]? = some 43 → tExt T T1 → G m (Pf (B h1)) (pc + 2, L, .inl (.ref h.length) :: st, h1, nc + 1, ns + 256)) : G m (Pf (letf (hZ h) B)) (pc, L, .inl (.int 256) :: st, h, nc, ns) := by
  refine k_lib HG hf rfl (fun _ hz => ?_)
  have hz : (if (256 : Int32) < 0 then false else Nat.ble (256 : Int32).toNatClampNeg 65536 && (Nat.ble (nc + 1) rc && (Nat.ble (ns + (256 : Int32).toNatClampNeg) rs && (Nat.blt h.length 1000000 && true)))) = true := hz
  show (if (256 : Int32) < 0 then false else Nat.ble (256 : Int32).toNatClampNeg 65536 && (Nat.ble (nc + 1) rc && (Nat.ble (ns + (256 : Int32).toNatClampNeg) rs && (Nat.blt h.length 1000000 && zB (G m (Pf (letf (hZ h) B)) (pc + 2, L, .inl (.ref h.length) :: st, hZ h, nc + 1, ns + 256)))))) = true
  rw [if_neg (by decide)] at hz ⊢
  obtain ⟨z1, hz⟩ := z_and hz
  obtain ⟨z2, hz⟩ := z_and hz
  obtain ⟨z3, hz⟩ := z_and hz
  obtain ⟨z4, -⟩ := z_and hz
  have hl : h.length + 1 ≤ 1000000 := by
    have := Nat.le_of_ble_eq_true z4
    omega
  have K1 : hOK kty (T ++ [43]) (h ++ [(15, List.replicate 256 (.inl (.int 0)))]) := hOK_appk K.1 hl ⟨okC_rep rfl rfl (fun _ => ⟨0, rfl, Int.le_refl 0, (by decide : (0 : Int) ≤ 1)⟩), trivial⟩
  refine t_and2 z1 (t_and2 z2 (t_and2 z3 (t_and2 z4 (zB_iff.mpr (kk _ (T ++ [43]) (kOK_trans K (V := W) ?_ (kOK_app K.1 K1)) ?_ (tExt_app _ _))))))
  · refine List.all_eq_true.mpr (fun p hp => ?_)
    show (if p.2 = 1000 then wAll W p.1 else wIn W p.1 p.2) = true
    by_cases e : p.2 = 1000
    · rw [if_pos e]
      exact List.any_eq_true.mpr ⟨p, hp, t_and2 (Nat.beq_refl _) (by rw [e]; rfl)⟩
    · rw [if_neg e]
      exact List.any_eq_true.mpr ⟨p, hp, t_and2 (Nat.beq_refl _) (by rw [Nat.beq_refl]; rfl)⟩
  · rw [K.1.1, List.getElem?_append_right (Nat.le_refl _), Nat.sub_self]
    rfl
def W_X5_chain : List (Nat × Nat) := [(30, 1000), (43, 1000)]
noncomputable def B_X5_chain_103 (h : zH) (c0 : Nat) (c1 : Int32) (c2 : Nat) (c3 : Int32) (c4 : Int32) (c5 : Nat) (s : (Int32)) : (Int32) ⊕ ((Int32 × zH) ⊕ ((Nat × Int32 × zH) ⊕ (Int32 × zH))) := (if s < (256 : Int32) then (if (hv h c5 s.toNatClampNeg) = (0 : Int32) then (Sum.inl (s + (1 : Int32))) else (if ((s >>> (c1 &&& 31)) &&& (1 : Int32)) = (0 : Int32) then (Sum.inr (Sum.inr (Sum.inr ((c4 + (1 : Int32)), h)))) else (Sum.inl (s + (1 : Int32))))) else (Sum.inr (Sum.inr (Sum.inl (c5, (c4 + (1 : Int32)), h)))))
noncomputable def B_X5_chain_65 (c0 : Nat) (c1 : Int32) (c2 : Nat) (c3 : Int32) (c4 : Int32) (c5 : Nat) (s : (Int32 × zH)) : (Int32 × zH) ⊕ ((Nat × Int32 × zH) ⊕ (Int32 × zH)) := (if s.1 < (256 : Int32) then (if (hv s.2 c2 s.1.toNatClampNeg) = (0 : Int32) then (Sum.inl ((s.1 + (1 : Int32)), s.2)) else (letf (F_X5_comesOn s.2 c0 s.1 c4 (c3 - c4) c5) (fun h2002 => (Sum.inl ((s.1 + (1 : Int32)), h2002))))) else (fx (B_X5_chain_103 s.2 c0 c1 c2 c3 c4 c5) (Sum.inr (Sum.inr (0, []))) (0 : Int32)))
noncomputable def B_X5_chain_48 (c0 : Nat) (c1 : Int32) (c3 : Int32) (s : (Nat × Int32 × zH)) : (Nat × Int32 × zH) ⊕ (Int32 × zH) := (if s.2.1 < (12 : Int32) then (letf (hZ s.2.2) (fun h1001 => (fx (B_X5_chain_65 c0 c1 s.1 c3 s.2.1 (List.length s.2.2)) (Sum.inr (0, [])) ((0 : Int32), h1001)))) else (Sum.inr ((-1 : Int32), s.2.2)))
noncomputable def F_X5_chain (h : zH) (q0 : Nat) (a1 : Int32) : Int32 × zH := (letf (F_X5_isThing h q0 a1) (fun y1 => (if y1 = (0 : Int32) then (letf (F_X5_refuse h q0 (-2 : Int32)) (fun y12 => (y12.1, y12.2))) else (if (hv h (hr h q0 22) a1.toNatClampNeg) = (-1 : Int32) then (letf (hZ h) (fun h3 => (letf (F_X5_standing h3 q0) (fun y4 => (letf (hput h3 (List.length h) y4.toNatClampNeg (.inl (.int ((1 : Int32) &&& 1)))) (fun h5 => (letf (F_X5_inside h5 q0) (fun y6 => (fx (B_X5_chain_48 q0 a1 y6) (0, []) ((List.length h), (0 : Int32), h5)))))))))) else ((0 : Int32), h)))))
theorem x_X5_chain {scr : List zV} {D : Nat} {T : List Nat} {h : zH} {q0 : Nat} {a1 : Int32} (hsc : cT scr) (K : hOK kty T h) (hq_q0 : T[q0]? = some 5) (hh : cH h) : xIHe scr W_X5_chain T  D 167 [.inl (.ref q0), .inl (.int a1)] h (F_X5_chain h q0 a1) := by
  cases D with
  | zero => exact fun _ _ hx => absurd hx (fun q => xD_zero q)
  | succ D =>
    refine xIHe_intro (E := ze_X5_chain) hsc rfl (cTb_ok rfl) hh (fun r h' G HG Pf hR m => ?_)
    have K := kOK_refl (W := W_X5_chain) K
    unfold F_X5_chain
    show G m _ (0, [(0, .inl (.ref q0)), (1, .inl (.int a1))], [], h, 0, 0)
    refine k_steps HG 2 (zB_iff.mpr (?_ : G m _ (2, [(0, .inl (.ref q0)), (1, .inl (.int a1))], [.inl (.int a1), .inl (.ref q0)], h, 0, 0)))
    refine k_cVI HG (E' := ze_X5_isThing) (Or.inl ⟨rfl, rfl⟩) hsc rfl rfl rfl rfl rfl (fun hh => x_X5_isThing hsc K.1 hq_q0 hh) (fun y1 => (?_ : G m _ (5, [(0, .inl (.ref q0)), (1, .inl (.int a1))], [.inl (.int y1)], h, 0, 0)))
    refine k_steps HG 1 (kb_ne (x := y1) (y := (0 : Int32)) ?_ ?_)
    · show G m _ (15, [(0, .inl (.ref q0)), (1, .inl (.int a1))], [], h, 0, 0)
      refine k_steps HG 1 (zB_iff.mpr (?_ : G m _ (16, [(0, .inl (.ref q0)), (1, .inl (.int a1))], [.inl (.ref q0)], h, 0, 0)))
      refine k_getR HG rfl K hq_q0 rfl (Nat.le_of_ble_eq_true rfl) rfl rfl (fun t2 => (?_ : G m _ (19, [(0, .inl (.ref q0)), (1, .inl (.int a1))], [.inl (.ref (hr h q0 22))], h, 0, 0)))
      refine k_steps HG 1 (zB_iff.mpr (?_ : G m _ (20, [(0, .inl (.ref q0)), (1, .inl (.int a1))], [.inl (.int a1), .inl (.ref (hr h q0 22))], h, 0, 0)))
      refine k_iald HG rfl K t2 rfl (fun _ => rfl) (?_ : G m _ (21, [(0, .inl (.ref q0)), (1, .inl (.int a1))], [.inl (.int (hv h (hr h q0 22) a1.toNatClampNeg))], h, 0, 0))
      refine k_steps HG 2 (kb_eq (x := (hv h (hr h q0 22) a1.toNatClampNeg)) (y := (-1 : Int32)) ?_ ?_)
      · show G m _ (27, [(0, .inl (.ref q0)), (1, .inl (.int a1))], [], h, 0, 0)
        refine k_steps HG 1 (zB_iff.mpr (?_ : G m _ (30, [(0, .inl (.ref q0)), (1, .inl (.int a1))], [.inl (.int (256 : Int32))], h, 0, 0)))
        refine k_newZ HG rfl K (fun h3 T3 K3 N3 m3 => ?_)
        show G m _ (32, [(0, .inl (.ref q0)), (1, .inl (.int a1))], [.inl (.ref (List.length h))], h3, (0 + 1), (0 + 256))
        refine k_steps HG 3 (zB_iff.mpr (?_ : G m _ (35, [(2, .inl (.ref (List.length h))), (0, .inl (.ref q0)), (1, .inl (.int a1))], [.inl (.ref q0), .inl (.ref (List.length h))], h3, (0 + 1), (0 + 256))))
        refine k_cVI HG (E' := ze_X5_standing) (Or.inl ⟨rfl, rfl⟩) hsc rfl rfl rfl rfl rfl (fun hh => x_X5_standing hsc K3.1 (m3 _ _ hq_q0) hh) (fun y4 => (?_ : G m _ (38, [(2, .inl (.ref (List.length h))), (0, .inl (.ref q0)), (1, .inl (.int a1))], [.inl (.int y4), .inl (.ref (List.length h))], h3, (0 + 1), (0 + 256))))
        refine k_steps HG 1 (zB_iff.mpr (?_ : G m _ (39, [(2, .inl (.ref (List.length h))), (0, .inl (.ref q0)), (1, .inl (.int a1))], [.inl (.int (1 : Int32)), .inl (.int y4), .inl (.ref (List.length h))], h3, (0 + 1), (0 + 256))))
        refine k_bast HG rfl K3 N3 rfl (fun _ => rfl) rfl (fun h5 K5 => (?_ : G m _ (40, [(2, .inl (.ref (List.length h))), (0, .inl (.ref q0)), (1, .inl (.int a1))], [], h5, (0 + 1), (0 + 256))))
        refine k_steps HG 1 (zB_iff.mpr (?_ : G m _ (41, [(2, .inl (.ref (List.length h))), (0, .inl (.ref q0)), (1, .inl (.int a1))], [.inl (.ref q0)], h5, (0 + 1), (0 + 256))))
        refine k_cVI HG (E' := ze_X5_inside) (Or.inl ⟨rfl, rfl⟩) hsc rfl rfl rfl rfl rfl (fun hh => x_X5_inside hsc K5.1 (m3 _ _ hq_q0) hh) (fun y6 => (?_ : G m _ (44, [(2, .inl (.ref (List.length h))), (0, .inl (.ref q0)), (1, .inl (.int a1))], [.inl (.int y6)], h5, (0 + 1), (0 + 256))))
        refine k_steps HG 3 (zB_iff.mpr (?_ : G m _ (48, [(4, .inl (.int (0 : Int32))), (3, .inl (.int y6)), (2, .inl (.ref (List.length h))), (0, .inl (.ref q0)), (1, .inl (.int a1))], [], h5, (0 + 1), (0 + 256))))
        have lp7 : ∀ m7, m7 ≤ m → ∀ (nc7 : Nat) (ns7 : Nat) (T7 : List Nat) (d7_5 : Nat) (d7_6 : Int32) (v7_2 : Nat) (v7_4 : Int32) (h7 : zH), kOK W_X5_chain T T7 h h7 → T7[v7_2]? = some 43 → G m7 (Pf (fx (B_X5_chain_48 q0 a1 y6) (0, []) (v7_2, v7_4, h7))) (48, [(0, .inl (.ref q0)), (1, .inl (.int a1)), (2, .inl (.ref v7_2)), (3, .inl (.int y6)), (4, .inl (.int v7_4)), (5, .inl (.ref d7_5)), (6, .inl (.int d7_6))], [], h7, nc7, ns7) := by
          intro m7
          induction m7 with
          | zero =>
            intros
            exact k_zero HG
          | succ m7 ih7 =>
            intro le7 nc7 ns7 T7 d7_5 d7_6 v7_2 v7_4 h7 K7 t7_2
            have le7 := Nat.le_of_succ_le le7
            have ih7 := ih7 le7
            refine k_fx ?_
            rw [B_X5_chain_48]
            refine k_first HG 2 (kb_ge (x := v7_4) (y := (12 : Int32)) ?_ ?_)
            · show G m7 _ (148, [(0, .inl (.ref q0)), (1, .inl (.int a1)), (2, .inl (.ref v7_2)), (3, .inl (.int y6)), (4, .inl (.int v7_4)), (5, .inl (.ref d7_5)), (6, .inl (.int d7_6))], [], h7, nc7, ns7)
              refine k_steps HG 1 (zB_iff.mpr (?_ : G m7 _ (149, [(0, .inl (.ref q0)), (1, .inl (.int a1)), (2, .inl (.ref v7_2)), (3, .inl (.int y6)), (4, .inl (.int v7_4)), (5, .inl (.ref d7_5)), (6, .inl (.int d7_6))], [.inl (.int (-1 : Int32))], h7, nc7, ns7)))
              exact k_reti HG rfl rfl (fun e1 e2 => hR _ _ _ e1 e2 K7)
            · show G m7 _ (55, [(0, .inl (.ref q0)), (1, .inl (.int a1)), (2, .inl (.ref v7_2)), (3, .inl (.int y6)), (4, .inl (.int v7_4)), (5, .inl (.ref d7_5)), (6, .inl (.int d7_6))], [], h7, nc7, ns7)
              refine k_steps HG 1 (zB_iff.mpr (?_ : G m7 _ (58, [(0, .inl (.ref q0)), (1, .inl (.int a1)), (2, .inl (.ref v7_2)), (3, .inl (.int y6)), (4, .inl (.int v7_4)), (5, .inl (.ref d7_5)), (6, .inl (.int d7_6))], [.inl (.int (256 : Int32))], h7, nc7, ns7)))
              refine k_newZ HG rfl K7 (fun h8 T8 K8 N8 m8 => ?_)
              show G m7 _ (60, [(0, .inl (.ref q0)), (1, .inl (.int a1)), (2, .inl (.ref v7_2)), (3, .inl (.int y6)), (4, .inl (.int v7_4)), (5, .inl (.ref d7_5)), (6, .inl (.int d7_6))], [.inl (.ref (List.length h7))], h8, (nc7 + 1), (ns7 + 256))
              refine k_steps HG 3 (zB_iff.mpr (?_ : G m7 _ (65, [(6, .inl (.int (0 : Int32))), (5, .inl (.ref (List.length h7))), (0, .inl (.ref q0)), (1, .inl (.int a1)), (2, .inl (.ref v7_2)), (3, .inl (.int y6)), (4, .inl (.int v7_4))], [], h8, (nc7 + 1), (ns7 + 256))))
              have lp9 : ∀ m9, m9 ≤ m7 → ∀ (nc9 : Nat) (ns9 : Nat) (v9_6 : Int32) (h9 : zH), kOK W_X5_chain T T8 h h9 → G m9 ((fxP Pf (B_X5_chain_48 q0 a1 y6) (0, [])) (fx (B_X5_chain_65 q0 a1 v7_2 y6 v7_4 (List.length h7)) (Sum.inr (0, [])) (v9_6, h9))) (65, [(0, .inl (.ref q0)), (1, .inl (.int a1)), (2, .inl (.ref v7_2)), (3, .inl (.int y6)), (4, .inl (.int v7_4)), (5, .inl (.ref (List.length h7))), (6, .inl (.int v9_6))], [], h9, nc9, ns9) := by
                intro m9
                induction m9 with
                | zero =>
                  intros
                  exact k_zero HG
                | succ m9 ih9 =>
                  intro le9 nc9 ns9 v9_6 h9 K9
                  have le9 := Nat.le_of_succ_le le9
                  have ih9 := ih9 le9
                  refine k_fx ?_
                  rw [B_X5_chain_65]
                  refine k_first HG 2 (kb_ge (x := v9_6) (y := (256 : Int32)) ?_ ?_)
                  · show G m9 _ (100, [(0, .inl (.ref q0)), (1, .inl (.int a1)), (2, .inl (.ref v7_2)), (3, .inl (.int y6)), (4, .inl (.int v7_4)), (5, .inl (.ref (List.length h7))), (6, .inl (.int v9_6))], [], h9, nc9, ns9)
                    refine k_steps HG 2 (zB_iff.mpr (?_ : G m9 _ (103, [(6, .inl (.int (0 : Int32))), (0, .inl (.ref q0)), (1, .inl (.int a1)), (2, .inl (.ref v7_2)), (3, .inl (.int y6)), (4, .inl (.int v7_4)), (5, .inl (.ref (List.length h7)))], [], h9, nc9, ns9)))
                    have lp10 : ∀ m10, m10 ≤ m9 → ∀ (nc10 : Nat) (ns10 : Nat) (v10_6 : Int32), G m10 ((fxP (fxP Pf (B_X5_chain_48 q0 a1 y6) (0, [])) (B_X5_chain_65 q0 a1 v7_2 y6 v7_4 (List.length h7)) (Sum.inr (0, []))) (fx (B_X5_chain_103 h9 q0 a1 v7_2 y6 v7_4 (List.length h7)) (Sum.inr (Sum.inr (0, []))) v10_6)) (103, [(0, .inl (.ref q0)), (1, .inl (.int a1)), (2, .inl (.ref v7_2)), (3, .inl (.int y6)), (4, .inl (.int v7_4)), (5, .inl (.ref (List.length h7))), (6, .inl (.int v10_6))], [], h9, nc10, ns10) := by
                      intro m10
                      induction m10 with
                      | zero =>
                        intros
                        exact k_zero HG
                      | succ m10 ih10 =>
                        intro le10 nc10 ns10 v10_6
                        have le10 := Nat.le_of_succ_le le10
                        have ih10 := ih10 le10
                        refine k_fx ?_
                        rw [B_X5_chain_103]
                        refine k_first HG 2 (kb_ge (x := v10_6) (y := (256 : Int32)) ?_ ?_)
                        · show G m10 _ (139, [(0, .inl (.ref q0)), (1, .inl (.int a1)), (2, .inl (.ref v7_2)), (3, .inl (.int y6)), (4, .inl (.int v7_4)), (5, .inl (.ref (List.length h7))), (6, .inl (.int v10_6))], [], h9, nc10, ns10)
                          refine k_steps HG 4 (zB_iff.mpr (?_ : G m10 _ (48, [(4, .inl (.int (v7_4 + (1 : Int32)))), (2, .inl (.ref (List.length h7))), (0, .inl (.ref q0)), (1, .inl (.int a1)), (3, .inl (.int y6)), (5, .inl (.ref (List.length h7))), (6, .inl (.int v10_6))], [], h9, nc10, ns10)))
                          refine k_ext HG (L' := [(0, .inl (.ref q0)), (1, .inl (.int a1)), (2, .inl (.ref (List.length h7))), (3, .inl (.int y6)), (4, .inl (.int (v7_4 + (1 : Int32)))), (5, .inl (.ref (List.length h7))), (6, .inl (.int v10_6))]) rfl rfl ⟨rfl, rfl, rfl, rfl, rfl, rfl, rfl, trivial⟩ ?_
                          exact k_mono HG (Nat.le_trans le10 le9) (ih7 _ _ _ _ _ _ _ _ K9 N8)
                        · show G m10 _ (111, [(0, .inl (.ref q0)), (1, .inl (.int a1)), (2, .inl (.ref v7_2)), (3, .inl (.int y6)), (4, .inl (.int v7_4)), (5, .inl (.ref (List.length h7))), (6, .inl (.int v10_6))], [], h9, nc10, ns10)
                          refine k_steps HG 2 (zB_iff.mpr (?_ : G m10 _ (115, [(0, .inl (.ref q0)), (1, .inl (.int a1)), (2, .inl (.ref v7_2)), (3, .inl (.int y6)), (4, .inl (.int v7_4)), (5, .inl (.ref (List.length h7))), (6, .inl (.int v10_6))], [.inl (.int v10_6), .inl (.ref (List.length h7))], h9, nc10, ns10)))
                          refine k_bald HG rfl K9 N8 rfl (fun _ => rfl) (?_ : G m10 _ (116, [(0, .inl (.ref q0)), (1, .inl (.int a1)), (2, .inl (.ref v7_2)), (3, .inl (.int y6)), (4, .inl (.int v7_4)), (5, .inl (.ref (List.length h7))), (6, .inl (.int v10_6))], [.inl (.int (hv h9 (List.length h7) v10_6.toNatClampNeg))], h9, nc10, ns10))
                          refine k_steps HG 1 (kb_eq (x := (hv h9 (List.length h7) v10_6.toNatClampNeg)) (y := (0 : Int32)) ?_ ?_)
                          · show G m10 _ (133, [(0, .inl (.ref q0)), (1, .inl (.int a1)), (2, .inl (.ref v7_2)), (3, .inl (.int y6)), (4, .inl (.int v7_4)), (5, .inl (.ref (List.length h7))), (6, .inl (.int v10_6))], [], h9, nc10, ns10)
                            refine k_steps HG 2 (zB_iff.mpr (?_ : G m10 _ (103, [(6, .inl (.int (v10_6 + (1 : Int32)))), (0, .inl (.ref q0)), (1, .inl (.int a1)), (2, .inl (.ref v7_2)), (3, .inl (.int y6)), (4, .inl (.int v7_4)), (5, .inl (.ref (List.length h7)))], [], h9, nc10, ns10)))
                            refine k_ext HG (L' := [(0, .inl (.ref q0)), (1, .inl (.int a1)), (2, .inl (.ref v7_2)), (3, .inl (.int y6)), (4, .inl (.int v7_4)), (5, .inl (.ref (List.length h7))), (6, .inl (.int (v10_6 + (1 : Int32))))]) rfl rfl ⟨rfl, rfl, rfl, rfl, rfl, rfl, rfl, trivial⟩ ?_
                            exact ih10 _ _ _
                          · show G m10 _ (119, [(0, .inl (.ref q0)), (1, .inl (.int a1)), (2, .inl (.ref v7_2)), (3, .inl (.int y6)), (4, .inl (.int v7_4)), (5, .inl (.ref (List.length h7))), (6, .inl (.int v10_6))], [], h9, nc10, ns10)
                            refine k_steps HG 6 (kb_ne (x := ((v10_6 >>> (a1 &&& 31)) &&& (1 : Int32))) (y := (0 : Int32)) ?_ ?_)
                            · show G m10 _ (133, [(0, .inl (.ref q0)), (1, .inl (.int a1)), (2, .inl (.ref v7_2)), (3, .inl (.int y6)), (4, .inl (.int v7_4)), (5, .inl (.ref (List.length h7))), (6, .inl (.int v10_6))], [], h9, nc10, ns10)
                              refine k_steps HG 2 (zB_iff.mpr (?_ : G m10 _ (103, [(6, .inl (.int (v10_6 + (1 : Int32)))), (0, .inl (.ref q0)), (1, .inl (.int a1)), (2, .inl (.ref v7_2)), (3, .inl (.int y6)), (4, .inl (.int v7_4)), (5, .inl (.ref (List.length h7)))], [], h9, nc10, ns10)))
                              refine k_ext HG (L' := [(0, .inl (.ref q0)), (1, .inl (.int a1)), (2, .inl (.ref v7_2)), (3, .inl (.int y6)), (4, .inl (.int v7_4)), (5, .inl (.ref (List.length h7))), (6, .inl (.int (v10_6 + (1 : Int32))))]) rfl rfl ⟨rfl, rfl, rfl, rfl, rfl, rfl, rfl, trivial⟩ ?_
                              exact ih10 _ _ _
                            · show G m10 _ (128, [(0, .inl (.ref q0)), (1, .inl (.int a1)), (2, .inl (.ref v7_2)), (3, .inl (.int y6)), (4, .inl (.int v7_4)), (5, .inl (.ref (List.length h7))), (6, .inl (.int v10_6))], [], h9, nc10, ns10)
                              refine k_steps HG 3 (zB_iff.mpr (?_ : G m10 _ (132, [(0, .inl (.ref q0)), (1, .inl (.int a1)), (2, .inl (.ref v7_2)), (3, .inl (.int y6)), (4, .inl (.int v7_4)), (5, .inl (.ref (List.length h7))), (6, .inl (.int v10_6))], [.inl (.int (v7_4 + (1 : Int32)))], h9, nc10, ns10)))
                              exact k_reti HG rfl rfl (fun e1 e2 => hR _ _ _ e1 e2 K9)
                    refine k_ext HG (L' := [(0, .inl (.ref q0)), (1, .inl (.int a1)), (2, .inl (.ref v7_2)), (3, .inl (.int y6)), (4, .inl (.int v7_4)), (5, .inl (.ref (List.length h7))), (6, .inl (.int (0 : Int32)))]) rfl rfl ⟨rfl, rfl, rfl, rfl, rfl, rfl, rfl, trivial⟩ ?_
                    exact lp10 m9 (Nat.le_refl _) _ _ _
                  · show G m9 _ (73, [(0, .inl (.ref q0)), (1, .inl (.int a1)), (2, .inl (.ref v7_2)), (3, .inl (.int y6)), (4, .inl (.int v7_4)), (5, .inl (.ref (List.length h7))), (6, .inl (.int v9_6))], [], h9, nc9, ns9)
                    refine k_steps HG 2 (zB_iff.mpr (?_ : G m9 _ (76, [(0, .inl (.ref q0)), (1, .inl (.int a1)), (2, .inl (.ref v7_2)), (3, .inl (.int y6)), (4, .inl (.int v7_4)), (5, .inl (.ref (List.length h7))), (6, .inl (.int v9_6))], [.inl (.int v9_6), .inl (.ref v7_2)], h9, nc9, ns9)))
                    refine k_bald HG rfl K9 (m8 _ _ t7_2) rfl (fun _ => rfl) (?_ : G m9 _ (77, [(0, .inl (.ref q0)), (1, .inl (.int a1)), (2, .inl (.ref v7_2)), (3, .inl (.int y6)), (4, .inl (.int v7_4)), (5, .inl (.ref (List.length h7))), (6, .inl (.int v9_6))], [.inl (.int (hv h9 v7_2 v9_6.toNatClampNeg))], h9, nc9, ns9))
                    refine k_steps HG 1 (kb_eq (x := (hv h9 v7_2 v9_6.toNatClampNeg)) (y := (0 : Int32)) ?_ ?_)
                    · show G m9 _ (94, [(0, .inl (.ref q0)), (1, .inl (.int a1)), (2, .inl (.ref v7_2)), (3, .inl (.int y6)), (4, .inl (.int v7_4)), (5, .inl (.ref (List.length h7))), (6, .inl (.int v9_6))], [], h9, nc9, ns9)
                      refine k_steps HG 2 (zB_iff.mpr (?_ : G m9 _ (65, [(6, .inl (.int (v9_6 + (1 : Int32)))), (0, .inl (.ref q0)), (1, .inl (.int a1)), (2, .inl (.ref v7_2)), (3, .inl (.int y6)), (4, .inl (.int v7_4)), (5, .inl (.ref (List.length h7)))], [], h9, nc9, ns9)))
                      refine k_ext HG (L' := [(0, .inl (.ref q0)), (1, .inl (.int a1)), (2, .inl (.ref v7_2)), (3, .inl (.int y6)), (4, .inl (.int v7_4)), (5, .inl (.ref (List.length h7))), (6, .inl (.int (v9_6 + (1 : Int32))))]) rfl rfl ⟨rfl, rfl, rfl, rfl, rfl, rfl, rfl, trivial⟩ ?_
                      exact ih9 _ _ _ _ K9
                    · show G m9 _ (80, [(0, .inl (.ref q0)), (1, .inl (.int a1)), (2, .inl (.ref v7_2)), (3, .inl (.int y6)), (4, .inl (.int v7_4)), (5, .inl (.ref (List.length h7))), (6, .inl (.int v9_6))], [], h9, nc9, ns9)
                      refine k_steps HG 7 (zB_iff.mpr (?_ : G m9 _ (91, [(0, .inl (.ref q0)), (1, .inl (.int a1)), (2, .inl (.ref v7_2)), (3, .inl (.int y6)), (4, .inl (.int v7_4)), (5, .inl (.ref (List.length h7))), (6, .inl (.int v9_6))], [.inl (.ref (List.length h7)), .inl (.int (y6 - v7_4)), .inl (.int v7_4), .inl (.int v9_6), .inl (.ref q0)], h9, nc9, ns9)))
                      refine k_cVH HG (E' := ze_X5_comesOn) (Or.inl ⟨rfl, rfl⟩) hsc rfl rfl rfl rfl rfl K9 rfl (fun hh => x_X5_comesOn hsc K9.1 (m8 _ _ (K7.2.1 _ _ hq_q0)) N8 hh) (fun h11 K11 => (?_ : G m9 _ (94, [(0, .inl (.ref q0)), (1, .inl (.int a1)), (2, .inl (.ref v7_2)), (3, .inl (.int y6)), (4, .inl (.int v7_4)), (5, .inl (.ref (List.length h7))), (6, .inl (.int v9_6))], [], h11, nc9, ns9)))
                      refine k_steps HG 2 (zB_iff.mpr (?_ : G m9 _ (65, [(6, .inl (.int (v9_6 + (1 : Int32)))), (0, .inl (.ref q0)), (1, .inl (.int a1)), (2, .inl (.ref v7_2)), (3, .inl (.int y6)), (4, .inl (.int v7_4)), (5, .inl (.ref (List.length h7)))], [], h11, nc9, ns9)))
                      refine k_ext HG (L' := [(0, .inl (.ref q0)), (1, .inl (.int a1)), (2, .inl (.ref v7_2)), (3, .inl (.int y6)), (4, .inl (.int v7_4)), (5, .inl (.ref (List.length h7))), (6, .inl (.int (v9_6 + (1 : Int32))))]) rfl rfl ⟨rfl, rfl, rfl, rfl, rfl, rfl, rfl, trivial⟩ ?_
                      exact ih9 _ _ _ _ K11
              refine k_ext HG (L' := [(0, .inl (.ref q0)), (1, .inl (.int a1)), (2, .inl (.ref v7_2)), (3, .inl (.int y6)), (4, .inl (.int v7_4)), (5, .inl (.ref (List.length h7))), (6, .inl (.int (0 : Int32)))]) rfl rfl ⟨rfl, rfl, rfl, rfl, rfl, rfl, rfl, trivial⟩ ?_
              exact lp9 m7 (Nat.le_refl _) _ _ _ _ K8
        refine k_ext HG (L' := [(0, .inl (.ref q0)), (1, .inl (.int a1)), (2, .inl (.ref (List.length h))), (3, .inl (.int y6)), (4, .inl (.int (0 : Int32))), (5, .inl (.ref 0)), (6, .inl (.int (0 : Int32)))]) rfl rfl ⟨rfl, rfl, rfl, rfl, rfl, trivial⟩ ?_
        exact lp7 m (Nat.le_refl _) _ _ _ _ _ _ _ _ K5 N3
      · show G m _ (25, [(0, .inl (.ref q0)), (1, .inl (.int a1))], [], h, 0, 0)
        refine k_steps HG 1 (zB_iff.mpr (?_ : G m _ (26, [(0, .inl (.ref q0)), (1, .inl (.int a1))], [.inl (.int (0 : Int32))], h, 0, 0)))
        exact k_reti HG rfl rfl (fun e1 e2 => hR _ _ _ e1 e2 K)
    · show G m _ (8, [(0, .inl (.ref q0)), (1, .inl (.int a1))], [], h, 0, 0)
      refine k_steps HG 2 (zB_iff.mpr (?_ : G m _ (11, [(0, .inl (.ref q0)), (1, .inl (.int a1))], [.inl (.int (-2 : Int32)), .inl (.ref q0)], h, 0, 0)))
      refine k_cVIH HG (E' := ze_X5_refuse) (Or.inl ⟨rfl, rfl⟩) hsc rfl rfl rfl rfl rfl K rfl (fun hh => x_X5_refuse hsc K.1 hq_q0 hh) (fun y12 K12 => (?_ : G m _ (14, [(0, .inl (.ref q0)), (1, .inl (.int a1))], [.inl (.int y12.1)], y12.2, 0, 0)))
      exact k_reti HG rfl rfl (fun e1 e2 => hR _ _ _ e1 e2 K12)
