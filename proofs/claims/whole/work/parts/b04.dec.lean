noncomputable def B_X5_liked_5 (h : zH) (c0 : Nat) (c1 : Int32) (c2 : Int32) (s : (Int32 × Int32)) : (Int32 × Int32) ⊕ (Int32) := (if s.2 < (hv h c0 17) then (if ((c2 >>> (s.2 &&& 31)) &&& (1 : Int32)) = (0 : Int32) then (Sum.inl ((s.1 + (0 : Int32)), (s.2 + (1 : Int32)))) else (Sum.inl ((s.1 + (hv h (hr h (hr h c0 25) c1.toNatClampNeg) s.2.toNatClampNeg)), (s.2 + (1 : Int32))))) else (Sum.inr s.1))
noncomputable def F_X5_liked (h : zH) (q0 : Nat) (a1 : Int32) (a2 : Int32) : Int32 := (fx (B_X5_liked_5 h q0 a1 a2) 0 ((0 : Int32), (0 : Int32)))
theorem x_X5_liked {scr : List zV} {T : List Nat} {h : zH} {q0 : Nat} {a1 : Int32} {a2 : Int32} (hsc : cT scr) (K : hOK kty T h) (hq_q0 : T[q0]? = some 5) (hh : cH h) : xI scr 196 [.inl (.ref q0), .inl (.int a1), .inl (.int a2)] h (F_X5_liked h q0 a1 a2) := by
  refine xI_intro (E := ze_X5_liked) hsc rfl (cTb_ok rfl) hh (fun d r h' G HG Pf hR m => ?_)
  have K := kOK_refl (W := []) K
  unfold F_X5_liked
  show G m _ (0, [(0, .inl (.ref q0)), (1, .inl (.int a1)), (2, .inl (.int a2))], [], h, 0, 0)
  refine k_steps HG 4 (zB_iff.mpr (?_ : G m _ (5, [(4, .inl (.int (0 : Int32))), (3, .inl (.int (0 : Int32))), (0, .inl (.ref q0)), (1, .inl (.int a1)), (2, .inl (.int a2))], [], h, 0, 0)))
  have lp1 : ∀ m1, m1 ≤ m → ∀ (v1_3 : Int32) (v1_4 : Int32), G m1 (Pf (fx (B_X5_liked_5 h q0 a1 a2) 0 (v1_3, v1_4))) (5, [(0, .inl (.ref q0)), (1, .inl (.int a1)), (2, .inl (.int a2)), (3, .inl (.int v1_3)), (4, .inl (.int v1_4))], [], h, 0, 0) := by
    intro m1
    induction m1 with
    | zero =>
      intros
      exact k_zero HG
    | succ m1 ih1 =>
      intro le1 v1_3 v1_4
      have le1 := Nat.le_of_succ_le le1
      have ih1 := ih1 le1
      refine k_fx ?_
      rw [B_X5_liked_5]
      refine k_first HG 1 (zB_iff.mpr (?_ : G m1 _ (8, [(0, .inl (.ref q0)), (1, .inl (.int a1)), (2, .inl (.int a2)), (3, .inl (.int v1_3)), (4, .inl (.int v1_4))], [.inl (.ref q0), .inl (.int v1_4)], h, 0, 0)))
      refine k_getI HG rfl K hq_q0 rfl (Nat.le_of_ble_eq_true rfl) rfl (?_ : G m1 _ (11, [(0, .inl (.ref q0)), (1, .inl (.int a1)), (2, .inl (.int a2)), (3, .inl (.int v1_3)), (4, .inl (.int v1_4))], [.inl (.int (hv h q0 17)), .inl (.int v1_4)], h, 0, 0))
      refine k_steps HG 1 (kb_ge (x := v1_4) (y := (hv h q0 17)) ?_ ?_)
      · show G m1 _ (45, [(0, .inl (.ref q0)), (1, .inl (.int a1)), (2, .inl (.int a2)), (3, .inl (.int v1_3)), (4, .inl (.int v1_4))], [], h, 0, 0)
        refine k_steps HG 1 (zB_iff.mpr (?_ : G m1 _ (46, [(0, .inl (.ref q0)), (1, .inl (.int a1)), (2, .inl (.int a2)), (3, .inl (.int v1_3)), (4, .inl (.int v1_4))], [.inl (.int v1_3)], h, 0, 0)))
        exact k_reti HG rfl rfl (fun e1 e2 => hR _ e1 e2)
      · show G m1 _ (14, [(0, .inl (.ref q0)), (1, .inl (.int a1)), (2, .inl (.int a2)), (3, .inl (.int v1_3)), (4, .inl (.int v1_4))], [], h, 0, 0)
        refine k_steps HG 7 (kb_eq (x := ((a2 >>> (v1_4 &&& 31)) &&& (1 : Int32))) (y := (0 : Int32)) ?_ ?_)
        · show G m1 _ (36, [(0, .inl (.ref q0)), (1, .inl (.int a1)), (2, .inl (.int a2)), (3, .inl (.int v1_3)), (4, .inl (.int v1_4))], [.inl (.int v1_3)], h, 0, 0)
          refine k_steps HG 5 (zB_iff.mpr (?_ : G m1 _ (5, [(4, .inl (.int (v1_4 + (1 : Int32)))), (3, .inl (.int (v1_3 + (0 : Int32)))), (0, .inl (.ref q0)), (1, .inl (.int a1)), (2, .inl (.int a2))], [], h, 0, 0)))
          refine k_ext HG (L' := [(0, .inl (.ref q0)), (1, .inl (.int a1)), (2, .inl (.int a2)), (3, .inl (.int (v1_3 + (0 : Int32)))), (4, .inl (.int (v1_4 + (1 : Int32))))]) rfl rfl ⟨rfl, rfl, rfl, rfl, rfl, trivial⟩ ?_
          exact ih1 _ _
        · show G m1 _ (24, [(0, .inl (.ref q0)), (1, .inl (.int a1)), (2, .inl (.int a2)), (3, .inl (.int v1_3)), (4, .inl (.int v1_4))], [.inl (.int v1_3)], h, 0, 0)
          refine k_steps HG 1 (zB_iff.mpr (?_ : G m1 _ (25, [(0, .inl (.ref q0)), (1, .inl (.int a1)), (2, .inl (.int a2)), (3, .inl (.int v1_3)), (4, .inl (.int v1_4))], [.inl (.ref q0), .inl (.int v1_3)], h, 0, 0)))
          refine k_getR HG rfl K hq_q0 rfl (Nat.le_of_ble_eq_true rfl) rfl rfl (fun t2 => (?_ : G m1 _ (28, [(0, .inl (.ref q0)), (1, .inl (.int a1)), (2, .inl (.int a2)), (3, .inl (.int v1_3)), (4, .inl (.int v1_4))], [.inl (.ref (hr h q0 25)), .inl (.int v1_3)], h, 0, 0)))
          refine k_steps HG 1 (zB_iff.mpr (?_ : G m1 _ (29, [(0, .inl (.ref q0)), (1, .inl (.int a1)), (2, .inl (.int a2)), (3, .inl (.int v1_3)), (4, .inl (.int v1_4))], [.inl (.int a1), .inl (.ref (hr h q0 25)), .inl (.int v1_3)], h, 0, 0)))
          refine k_aald HG rfl K t2 (fun _ => ⟨rfl, rfl⟩) (fun t3 => (?_ : G m1 _ (30, [(0, .inl (.ref q0)), (1, .inl (.int a1)), (2, .inl (.int a2)), (3, .inl (.int v1_3)), (4, .inl (.int v1_4))], [.inl (.ref (hr h (hr h q0 25) a1.toNatClampNeg)), .inl (.int v1_3)], h, 0, 0)))
          refine k_steps HG 1 (zB_iff.mpr (?_ : G m1 _ (32, [(0, .inl (.ref q0)), (1, .inl (.int a1)), (2, .inl (.int a2)), (3, .inl (.int v1_3)), (4, .inl (.int v1_4))], [.inl (.int v1_4), .inl (.ref (hr h (hr h q0 25) a1.toNatClampNeg)), .inl (.int v1_3)], h, 0, 0)))
          refine k_iald HG rfl K t3 rfl (fun _ => rfl) (?_ : G m1 _ (33, [(0, .inl (.ref q0)), (1, .inl (.int a1)), (2, .inl (.int a2)), (3, .inl (.int v1_3)), (4, .inl (.int v1_4))], [.inl (.int (hv h (hr h (hr h q0 25) a1.toNatClampNeg) v1_4.toNatClampNeg)), .inl (.int v1_3)], h, 0, 0))
          refine k_steps HG 5 (zB_iff.mpr (?_ : G m1 _ (5, [(4, .inl (.int (v1_4 + (1 : Int32)))), (3, .inl (.int (v1_3 + (hv h (hr h (hr h q0 25) a1.toNatClampNeg) v1_4.toNatClampNeg)))), (0, .inl (.ref q0)), (1, .inl (.int a1)), (2, .inl (.int a2))], [], h, 0, 0)))
          refine k_ext HG (L' := [(0, .inl (.ref q0)), (1, .inl (.int a1)), (2, .inl (.int a2)), (3, .inl (.int (v1_3 + (hv h (hr h (hr h q0 25) a1.toNatClampNeg) v1_4.toNatClampNeg)))), (4, .inl (.int (v1_4 + (1 : Int32))))]) rfl rfl ⟨rfl, rfl, rfl, rfl, rfl, trivial⟩ ?_
          exact ih1 _ _
  refine k_ext HG (L' := [(0, .inl (.ref q0)), (1, .inl (.int a1)), (2, .inl (.int a2)), (3, .inl (.int (0 : Int32))), (4, .inl (.int (0 : Int32)))]) rfl rfl ⟨rfl, rfl, rfl, rfl, rfl, trivial⟩ ?_
  exact lp1 m (Nat.le_refl _) _ _
def W_X5_over_31 : List (Nat × Nat) := [(31, 1000)]
noncomputable def B_X5_over_31_2 (c0 : Nat) (c1 : Nat) (s : (Int32 × zH)) : (Int32 × zH) ⊕ (zH) := (if s.1 < (61 : Int32) then (letf (hput s.2 c1 s.1.toNatClampNeg (.inl (.int (hv s.2 c0 s.1.toNatClampNeg)))) (fun h1001 => (Sum.inl ((s.1 + (1 : Int32)), h1001)))) else (Sum.inr s.2))
noncomputable def F_X5_over_31 (h : zH) (q0 : Nat) (q1 : Nat) : zH := (fx (B_X5_over_31_2 q0 q1) [] ((0 : Int32), h))
theorem x_X5_over_31 {scr : List zV} {T : List Nat} {h : zH} {q0 : Nat} {q1 : Nat} (hsc : cT scr) (K : hOK kty T h) (hq_q0 : T[q0]? = some 31) (hq_q1 : T[q1]? = some 31) (hh : cH h) : xH scr W_X5_over_31 T T 206 [.inl (.ref q0), .inl (.ref q1)] h (F_X5_over_31 h q0 q1) := by
  refine xH_intro (E := ze_X5_over) hsc rfl (cTb_ok rfl) hh (fun d r h' G HG Pf hR m => ?_)
  have K := kOK_refl (W := W_X5_over_31) K
  unfold F_X5_over_31
  show G m _ (0, [(0, .inl (.ref q0)), (1, .inl (.ref q1))], [], h, 0, 0)
  refine k_steps HG 2 (zB_iff.mpr (?_ : G m _ (2, [(2, .inl (.int (0 : Int32))), (0, .inl (.ref q0)), (1, .inl (.ref q1))], [], h, 0, 0)))
  have lp1 : ∀ m1, m1 ≤ m → ∀ (v1_2 : Int32) (h1 : zH), kOK W_X5_over_31 T T h h1 → G m1 (Pf (fx (B_X5_over_31_2 q0 q1) [] (v1_2, h1))) (2, [(0, .inl (.ref q0)), (1, .inl (.ref q1)), (2, .inl (.int v1_2))], [], h1, 0, 0) := by
    intro m1
    induction m1 with
    | zero =>
      intros
      exact k_zero HG
    | succ m1 ih1 =>
      intro le1 v1_2 h1 K1
      have le1 := Nat.le_of_succ_le le1
      have ih1 := ih1 le1
      refine k_fx ?_
      rw [B_X5_over_31_2]
      refine k_first HG 1 (zB_iff.mpr (?_ : G m1 _ (4, [(0, .inl (.ref q0)), (1, .inl (.ref q1)), (2, .inl (.int v1_2))], [.inl (.ref q0), .inl (.int v1_2)], h1, 0, 0)))
      refine k_len HG rfl K1 hq_q0 (Nat.le_of_ble_eq_true rfl) rfl (?_ : G m1 _ (5, [(0, .inl (.ref q0)), (1, .inl (.ref q1)), (2, .inl (.int v1_2))], [.inl (.int (61 : Int32)), .inl (.int v1_2)], h1, 0, 0))
      refine k_steps HG 1 (kb_ge (x := v1_2) (y := (61 : Int32)) ?_ ?_)
      · show G m1 _ (20, [(0, .inl (.ref q0)), (1, .inl (.ref q1)), (2, .inl (.int v1_2))], [], h1, 0, 0)
        exact k_retv HG rfl rfl (fun e1 e2 => hR _ e1 e2 K1)
      · show G m1 _ (8, [(0, .inl (.ref q0)), (1, .inl (.ref q1)), (2, .inl (.int v1_2))], [], h1, 0, 0)
        refine k_steps HG 4 (zB_iff.mpr (?_ : G m1 _ (12, [(0, .inl (.ref q0)), (1, .inl (.ref q1)), (2, .inl (.int v1_2))], [.inl (.int v1_2), .inl (.ref q0), .inl (.int v1_2), .inl (.ref q1)], h1, 0, 0)))
        refine k_iald HG rfl K1 hq_q0 rfl (fun _ => rfl) (?_ : G m1 _ (13, [(0, .inl (.ref q0)), (1, .inl (.ref q1)), (2, .inl (.int v1_2))], [.inl (.int (hv h1 q0 v1_2.toNatClampNeg)), .inl (.int v1_2), .inl (.ref q1)], h1, 0, 0))
        refine k_iast HG rfl K1 hq_q1 rfl (fun _ => rfl) rfl (fun h2 K2 => (?_ : G m1 _ (14, [(0, .inl (.ref q0)), (1, .inl (.ref q1)), (2, .inl (.int v1_2))], [], h2, 0, 0)))
        refine k_steps HG 2 (zB_iff.mpr (?_ : G m1 _ (2, [(2, .inl (.int (v1_2 + (1 : Int32)))), (0, .inl (.ref q0)), (1, .inl (.ref q1))], [], h2, 0, 0)))
        refine k_ext HG (L' := [(0, .inl (.ref q0)), (1, .inl (.ref q1)), (2, .inl (.int (v1_2 + (1 : Int32))))]) rfl rfl ⟨rfl, rfl, rfl, trivial⟩ ?_
        exact ih1 _ _ K2
  refine k_ext HG (L' := [(0, .inl (.ref q0)), (1, .inl (.ref q1)), (2, .inl (.int (0 : Int32)))]) rfl rfl ⟨rfl, rfl, rfl, trivial⟩ ?_
  exact lp1 m (Nat.le_refl _) _ _ K
def W_X5_over_32 : List (Nat × Nat) := [(32, 1000)]
noncomputable def B_X5_over_32_2 (c0 : Nat) (c1 : Nat) (s : (Int32 × zH)) : (Int32 × zH) ⊕ (zH) := (if s.1 < (8 : Int32) then (letf (hput s.2 c1 s.1.toNatClampNeg (.inl (.int (hv s.2 c0 s.1.toNatClampNeg)))) (fun h1001 => (Sum.inl ((s.1 + (1 : Int32)), h1001)))) else (Sum.inr s.2))
noncomputable def F_X5_over_32 (h : zH) (q0 : Nat) (q1 : Nat) : zH := (fx (B_X5_over_32_2 q0 q1) [] ((0 : Int32), h))
theorem x_X5_over_32 {scr : List zV} {T : List Nat} {h : zH} {q0 : Nat} {q1 : Nat} (hsc : cT scr) (K : hOK kty T h) (hq_q0 : T[q0]? = some 32) (hq_q1 : T[q1]? = some 32) (hh : cH h) : xH scr W_X5_over_32 T T 206 [.inl (.ref q0), .inl (.ref q1)] h (F_X5_over_32 h q0 q1) := by
  refine xH_intro (E := ze_X5_over) hsc rfl (cTb_ok rfl) hh (fun d r h' G HG Pf hR m => ?_)
  have K := kOK_refl (W := W_X5_over_32) K
  unfold F_X5_over_32
  show G m _ (0, [(0, .inl (.ref q0)), (1, .inl (.ref q1))], [], h, 0, 0)
  refine k_steps HG 2 (zB_iff.mpr (?_ : G m _ (2, [(2, .inl (.int (0 : Int32))), (0, .inl (.ref q0)), (1, .inl (.ref q1))], [], h, 0, 0)))
  have lp1 : ∀ m1, m1 ≤ m → ∀ (v1_2 : Int32) (h1 : zH), kOK W_X5_over_32 T T h h1 → G m1 (Pf (fx (B_X5_over_32_2 q0 q1) [] (v1_2, h1))) (2, [(0, .inl (.ref q0)), (1, .inl (.ref q1)), (2, .inl (.int v1_2))], [], h1, 0, 0) := by
    intro m1
    induction m1 with
    | zero =>
      intros
      exact k_zero HG
    | succ m1 ih1 =>
      intro le1 v1_2 h1 K1
      have le1 := Nat.le_of_succ_le le1
      have ih1 := ih1 le1
      refine k_fx ?_
      rw [B_X5_over_32_2]
      refine k_first HG 1 (zB_iff.mpr (?_ : G m1 _ (4, [(0, .inl (.ref q0)), (1, .inl (.ref q1)), (2, .inl (.int v1_2))], [.inl (.ref q0), .inl (.int v1_2)], h1, 0, 0)))
      refine k_len HG rfl K1 hq_q0 (Nat.le_of_ble_eq_true rfl) rfl (?_ : G m1 _ (5, [(0, .inl (.ref q0)), (1, .inl (.ref q1)), (2, .inl (.int v1_2))], [.inl (.int (8 : Int32)), .inl (.int v1_2)], h1, 0, 0))
      refine k_steps HG 1 (kb_ge (x := v1_2) (y := (8 : Int32)) ?_ ?_)
      · show G m1 _ (20, [(0, .inl (.ref q0)), (1, .inl (.ref q1)), (2, .inl (.int v1_2))], [], h1, 0, 0)
        exact k_retv HG rfl rfl (fun e1 e2 => hR _ e1 e2 K1)
      · show G m1 _ (8, [(0, .inl (.ref q0)), (1, .inl (.ref q1)), (2, .inl (.int v1_2))], [], h1, 0, 0)
        refine k_steps HG 4 (zB_iff.mpr (?_ : G m1 _ (12, [(0, .inl (.ref q0)), (1, .inl (.ref q1)), (2, .inl (.int v1_2))], [.inl (.int v1_2), .inl (.ref q0), .inl (.int v1_2), .inl (.ref q1)], h1, 0, 0)))
        refine k_iald HG rfl K1 hq_q0 rfl (fun _ => rfl) (?_ : G m1 _ (13, [(0, .inl (.ref q0)), (1, .inl (.ref q1)), (2, .inl (.int v1_2))], [.inl (.int (hv h1 q0 v1_2.toNatClampNeg)), .inl (.int v1_2), .inl (.ref q1)], h1, 0, 0))
        refine k_iast HG rfl K1 hq_q1 rfl (fun _ => rfl) rfl (fun h2 K2 => (?_ : G m1 _ (14, [(0, .inl (.ref q0)), (1, .inl (.ref q1)), (2, .inl (.int v1_2))], [], h2, 0, 0)))
        refine k_steps HG 2 (zB_iff.mpr (?_ : G m1 _ (2, [(2, .inl (.int (v1_2 + (1 : Int32)))), (0, .inl (.ref q0)), (1, .inl (.ref q1))], [], h2, 0, 0)))
        refine k_ext HG (L' := [(0, .inl (.ref q0)), (1, .inl (.ref q1)), (2, .inl (.int (v1_2 + (1 : Int32))))]) rfl rfl ⟨rfl, rfl, rfl, trivial⟩ ?_
        exact ih1 _ _ K2
  refine k_ext HG (L' := [(0, .inl (.ref q0)), (1, .inl (.ref q1)), (2, .inl (.int (0 : Int32)))]) rfl rfl ⟨rfl, rfl, rfl, trivial⟩ ?_
  exact lp1 m (Nat.le_refl _) _ _ K
def W_X5_over_33 : List (Nat × Nat) := [(33, 1000)]
noncomputable def B_X5_over_33_2 (c0 : Nat) (c1 : Nat) (s : (Int32 × zH)) : (Int32 × zH) ⊕ (zH) := (if s.1 < (8 : Int32) then (letf (hput s.2 c1 s.1.toNatClampNeg (.inl (.int (hv s.2 c0 s.1.toNatClampNeg)))) (fun h1001 => (Sum.inl ((s.1 + (1 : Int32)), h1001)))) else (Sum.inr s.2))
noncomputable def F_X5_over_33 (h : zH) (q0 : Nat) (q1 : Nat) : zH := (fx (B_X5_over_33_2 q0 q1) [] ((0 : Int32), h))
theorem x_X5_over_33 {scr : List zV} {T : List Nat} {h : zH} {q0 : Nat} {q1 : Nat} (hsc : cT scr) (K : hOK kty T h) (hq_q0 : T[q0]? = some 33) (hq_q1 : T[q1]? = some 33) (hh : cH h) : xH scr W_X5_over_33 T T 206 [.inl (.ref q0), .inl (.ref q1)] h (F_X5_over_33 h q0 q1) := by
  refine xH_intro (E := ze_X5_over) hsc rfl (cTb_ok rfl) hh (fun d r h' G HG Pf hR m => ?_)
  have K := kOK_refl (W := W_X5_over_33) K
  unfold F_X5_over_33
  show G m _ (0, [(0, .inl (.ref q0)), (1, .inl (.ref q1))], [], h, 0, 0)
  refine k_steps HG 2 (zB_iff.mpr (?_ : G m _ (2, [(2, .inl (.int (0 : Int32))), (0, .inl (.ref q0)), (1, .inl (.ref q1))], [], h, 0, 0)))
  have lp1 : ∀ m1, m1 ≤ m → ∀ (v1_2 : Int32) (h1 : zH), kOK W_X5_over_33 T T h h1 → G m1 (Pf (fx (B_X5_over_33_2 q0 q1) [] (v1_2, h1))) (2, [(0, .inl (.ref q0)), (1, .inl (.ref q1)), (2, .inl (.int v1_2))], [], h1, 0, 0) := by
    intro m1
    induction m1 with
    | zero =>
      intros
      exact k_zero HG
    | succ m1 ih1 =>
      intro le1 v1_2 h1 K1
      have le1 := Nat.le_of_succ_le le1
      have ih1 := ih1 le1
      refine k_fx ?_
      rw [B_X5_over_33_2]
      refine k_first HG 1 (zB_iff.mpr (?_ : G m1 _ (4, [(0, .inl (.ref q0)), (1, .inl (.ref q1)), (2, .inl (.int v1_2))], [.inl (.ref q0), .inl (.int v1_2)], h1, 0, 0)))
      refine k_len HG rfl K1 hq_q0 (Nat.le_of_ble_eq_true rfl) rfl (?_ : G m1 _ (5, [(0, .inl (.ref q0)), (1, .inl (.ref q1)), (2, .inl (.int v1_2))], [.inl (.int (8 : Int32)), .inl (.int v1_2)], h1, 0, 0))
      refine k_steps HG 1 (kb_ge (x := v1_2) (y := (8 : Int32)) ?_ ?_)
      · show G m1 _ (20, [(0, .inl (.ref q0)), (1, .inl (.ref q1)), (2, .inl (.int v1_2))], [], h1, 0, 0)
        exact k_retv HG rfl rfl (fun e1 e2 => hR _ e1 e2 K1)
      · show G m1 _ (8, [(0, .inl (.ref q0)), (1, .inl (.ref q1)), (2, .inl (.int v1_2))], [], h1, 0, 0)
        refine k_steps HG 4 (zB_iff.mpr (?_ : G m1 _ (12, [(0, .inl (.ref q0)), (1, .inl (.ref q1)), (2, .inl (.int v1_2))], [.inl (.int v1_2), .inl (.ref q0), .inl (.int v1_2), .inl (.ref q1)], h1, 0, 0)))
        refine k_iald HG rfl K1 hq_q0 rfl (fun _ => rfl) (?_ : G m1 _ (13, [(0, .inl (.ref q0)), (1, .inl (.ref q1)), (2, .inl (.int v1_2))], [.inl (.int (hv h1 q0 v1_2.toNatClampNeg)), .inl (.int v1_2), .inl (.ref q1)], h1, 0, 0))
        refine k_iast HG rfl K1 hq_q1 rfl (fun _ => rfl) rfl (fun h2 K2 => (?_ : G m1 _ (14, [(0, .inl (.ref q0)), (1, .inl (.ref q1)), (2, .inl (.int v1_2))], [], h2, 0, 0)))
        refine k_steps HG 2 (zB_iff.mpr (?_ : G m1 _ (2, [(2, .inl (.int (v1_2 + (1 : Int32)))), (0, .inl (.ref q0)), (1, .inl (.ref q1))], [], h2, 0, 0)))
        refine k_ext HG (L' := [(0, .inl (.ref q0)), (1, .inl (.ref q1)), (2, .inl (.int (v1_2 + (1 : Int32))))]) rfl rfl ⟨rfl, rfl, rfl, trivial⟩ ?_
        exact ih1 _ _ K2
  refine k_ext HG (L' := [(0, .inl (.ref q0)), (1, .inl (.ref q1)), (2, .inl (.int (0 : Int32)))]) rfl rfl ⟨rfl, rfl, rfl, trivial⟩ ?_
  exact lp1 m (Nat.le_refl _) _ _ K
def W_X5_over_34 : List (Nat × Nat) := [(34, 1000)]
noncomputable def B_X5_over_34_2 (c0 : Nat) (c1 : Nat) (s : (Int32 × zH)) : (Int32 × zH) ⊕ (zH) := (if s.1 < (8 : Int32) then (letf (hput s.2 c1 s.1.toNatClampNeg (.inl (.int (hv s.2 c0 s.1.toNatClampNeg)))) (fun h1001 => (Sum.inl ((s.1 + (1 : Int32)), h1001)))) else (Sum.inr s.2))
noncomputable def F_X5_over_34 (h : zH) (q0 : Nat) (q1 : Nat) : zH := (fx (B_X5_over_34_2 q0 q1) [] ((0 : Int32), h))
theorem x_X5_over_34 {scr : List zV} {T : List Nat} {h : zH} {q0 : Nat} {q1 : Nat} (hsc : cT scr) (K : hOK kty T h) (hq_q0 : T[q0]? = some 34) (hq_q1 : T[q1]? = some 34) (hh : cH h) : xH scr W_X5_over_34 T T 206 [.inl (.ref q0), .inl (.ref q1)] h (F_X5_over_34 h q0 q1) := by
  refine xH_intro (E := ze_X5_over) hsc rfl (cTb_ok rfl) hh (fun d r h' G HG Pf hR m => ?_)
  have K := kOK_refl (W := W_X5_over_34) K
  unfold F_X5_over_34
  show G m _ (0, [(0, .inl (.ref q0)), (1, .inl (.ref q1))], [], h, 0, 0)
  refine k_steps HG 2 (zB_iff.mpr (?_ : G m _ (2, [(2, .inl (.int (0 : Int32))), (0, .inl (.ref q0)), (1, .inl (.ref q1))], [], h, 0, 0)))
  have lp1 : ∀ m1, m1 ≤ m → ∀ (v1_2 : Int32) (h1 : zH), kOK W_X5_over_34 T T h h1 → G m1 (Pf (fx (B_X5_over_34_2 q0 q1) [] (v1_2, h1))) (2, [(0, .inl (.ref q0)), (1, .inl (.ref q1)), (2, .inl (.int v1_2))], [], h1, 0, 0) := by
    intro m1
    induction m1 with
    | zero =>
      intros
      exact k_zero HG
    | succ m1 ih1 =>
      intro le1 v1_2 h1 K1
      have le1 := Nat.le_of_succ_le le1
      have ih1 := ih1 le1
      refine k_fx ?_
      rw [B_X5_over_34_2]
      refine k_first HG 1 (zB_iff.mpr (?_ : G m1 _ (4, [(0, .inl (.ref q0)), (1, .inl (.ref q1)), (2, .inl (.int v1_2))], [.inl (.ref q0), .inl (.int v1_2)], h1, 0, 0)))
      refine k_len HG rfl K1 hq_q0 (Nat.le_of_ble_eq_true rfl) rfl (?_ : G m1 _ (5, [(0, .inl (.ref q0)), (1, .inl (.ref q1)), (2, .inl (.int v1_2))], [.inl (.int (8 : Int32)), .inl (.int v1_2)], h1, 0, 0))
      refine k_steps HG 1 (kb_ge (x := v1_2) (y := (8 : Int32)) ?_ ?_)
      · show G m1 _ (20, [(0, .inl (.ref q0)), (1, .inl (.ref q1)), (2, .inl (.int v1_2))], [], h1, 0, 0)
        exact k_retv HG rfl rfl (fun e1 e2 => hR _ e1 e2 K1)
      · show G m1 _ (8, [(0, .inl (.ref q0)), (1, .inl (.ref q1)), (2, .inl (.int v1_2))], [], h1, 0, 0)
        refine k_steps HG 4 (zB_iff.mpr (?_ : G m1 _ (12, [(0, .inl (.ref q0)), (1, .inl (.ref q1)), (2, .inl (.int v1_2))], [.inl (.int v1_2), .inl (.ref q0), .inl (.int v1_2), .inl (.ref q1)], h1, 0, 0)))
        refine k_iald HG rfl K1 hq_q0 rfl (fun _ => rfl) (?_ : G m1 _ (13, [(0, .inl (.ref q0)), (1, .inl (.ref q1)), (2, .inl (.int v1_2))], [.inl (.int (hv h1 q0 v1_2.toNatClampNeg)), .inl (.int v1_2), .inl (.ref q1)], h1, 0, 0))
        refine k_iast HG rfl K1 hq_q1 rfl (fun _ => rfl) rfl (fun h2 K2 => (?_ : G m1 _ (14, [(0, .inl (.ref q0)), (1, .inl (.ref q1)), (2, .inl (.int v1_2))], [], h2, 0, 0)))
        refine k_steps HG 2 (zB_iff.mpr (?_ : G m1 _ (2, [(2, .inl (.int (v1_2 + (1 : Int32)))), (0, .inl (.ref q0)), (1, .inl (.ref q1))], [], h2, 0, 0)))
        refine k_ext HG (L' := [(0, .inl (.ref q0)), (1, .inl (.ref q1)), (2, .inl (.int (v1_2 + (1 : Int32))))]) rfl rfl ⟨rfl, rfl, rfl, trivial⟩ ?_
        exact ih1 _ _ K2
  refine k_ext HG (L' := [(0, .inl (.ref q0)), (1, .inl (.ref q1)), (2, .inl (.int (0 : Int32)))]) rfl rfl ⟨rfl, rfl, rfl, trivial⟩ ?_
  exact lp1 m (Nat.le_refl _) _ _ K
def W_X5_over_35 : List (Nat × Nat) := [(35, 1000)]
noncomputable def B_X5_over_35_2 (c0 : Nat) (c1 : Nat) (s : (Int32 × zH)) : (Int32 × zH) ⊕ (zH) := (if s.1 < (8 : Int32) then (letf (hput s.2 c1 s.1.toNatClampNeg (.inl (.int (hv s.2 c0 s.1.toNatClampNeg)))) (fun h1001 => (Sum.inl ((s.1 + (1 : Int32)), h1001)))) else (Sum.inr s.2))
noncomputable def F_X5_over_35 (h : zH) (q0 : Nat) (q1 : Nat) : zH := (fx (B_X5_over_35_2 q0 q1) [] ((0 : Int32), h))
theorem x_X5_over_35 {scr : List zV} {T : List Nat} {h : zH} {q0 : Nat} {q1 : Nat} (hsc : cT scr) (K : hOK kty T h) (hq_q0 : T[q0]? = some 35) (hq_q1 : T[q1]? = some 35) (hh : cH h) : xH scr W_X5_over_35 T T 206 [.inl (.ref q0), .inl (.ref q1)] h (F_X5_over_35 h q0 q1) := by
  refine xH_intro (E := ze_X5_over) hsc rfl (cTb_ok rfl) hh (fun d r h' G HG Pf hR m => ?_)
  have K := kOK_refl (W := W_X5_over_35) K
  unfold F_X5_over_35
  show G m _ (0, [(0, .inl (.ref q0)), (1, .inl (.ref q1))], [], h, 0, 0)
  refine k_steps HG 2 (zB_iff.mpr (?_ : G m _ (2, [(2, .inl (.int (0 : Int32))), (0, .inl (.ref q0)), (1, .inl (.ref q1))], [], h, 0, 0)))
  have lp1 : ∀ m1, m1 ≤ m → ∀ (v1_2 : Int32) (h1 : zH), kOK W_X5_over_35 T T h h1 → G m1 (Pf (fx (B_X5_over_35_2 q0 q1) [] (v1_2, h1))) (2, [(0, .inl (.ref q0)), (1, .inl (.ref q1)), (2, .inl (.int v1_2))], [], h1, 0, 0) := by
    intro m1
    induction m1 with
    | zero =>
      intros
      exact k_zero HG
    | succ m1 ih1 =>
      intro le1 v1_2 h1 K1
      have le1 := Nat.le_of_succ_le le1
      have ih1 := ih1 le1
      refine k_fx ?_
      rw [B_X5_over_35_2]
      refine k_first HG 1 (zB_iff.mpr (?_ : G m1 _ (4, [(0, .inl (.ref q0)), (1, .inl (.ref q1)), (2, .inl (.int v1_2))], [.inl (.ref q0), .inl (.int v1_2)], h1, 0, 0)))
      refine k_len HG rfl K1 hq_q0 (Nat.le_of_ble_eq_true rfl) rfl (?_ : G m1 _ (5, [(0, .inl (.ref q0)), (1, .inl (.ref q1)), (2, .inl (.int v1_2))], [.inl (.int (8 : Int32)), .inl (.int v1_2)], h1, 0, 0))
      refine k_steps HG 1 (kb_ge (x := v1_2) (y := (8 : Int32)) ?_ ?_)
      · show G m1 _ (20, [(0, .inl (.ref q0)), (1, .inl (.ref q1)), (2, .inl (.int v1_2))], [], h1, 0, 0)
        exact k_retv HG rfl rfl (fun e1 e2 => hR _ e1 e2 K1)
      · show G m1 _ (8, [(0, .inl (.ref q0)), (1, .inl (.ref q1)), (2, .inl (.int v1_2))], [], h1, 0, 0)
        refine k_steps HG 4 (zB_iff.mpr (?_ : G m1 _ (12, [(0, .inl (.ref q0)), (1, .inl (.ref q1)), (2, .inl (.int v1_2))], [.inl (.int v1_2), .inl (.ref q0), .inl (.int v1_2), .inl (.ref q1)], h1, 0, 0)))
        refine k_iald HG rfl K1 hq_q0 rfl (fun _ => rfl) (?_ : G m1 _ (13, [(0, .inl (.ref q0)), (1, .inl (.ref q1)), (2, .inl (.int v1_2))], [.inl (.int (hv h1 q0 v1_2.toNatClampNeg)), .inl (.int v1_2), .inl (.ref q1)], h1, 0, 0))
        refine k_iast HG rfl K1 hq_q1 rfl (fun _ => rfl) rfl (fun h2 K2 => (?_ : G m1 _ (14, [(0, .inl (.ref q0)), (1, .inl (.ref q1)), (2, .inl (.int v1_2))], [], h2, 0, 0)))
        refine k_steps HG 2 (zB_iff.mpr (?_ : G m1 _ (2, [(2, .inl (.int (v1_2 + (1 : Int32)))), (0, .inl (.ref q0)), (1, .inl (.ref q1))], [], h2, 0, 0)))
        refine k_ext HG (L' := [(0, .inl (.ref q0)), (1, .inl (.ref q1)), (2, .inl (.int (v1_2 + (1 : Int32))))]) rfl rfl ⟨rfl, rfl, rfl, trivial⟩ ?_
        exact ih1 _ _ K2
  refine k_ext HG (L' := [(0, .inl (.ref q0)), (1, .inl (.ref q1)), (2, .inl (.int (0 : Int32)))]) rfl rfl ⟨rfl, rfl, rfl, trivial⟩ ?_
  exact lp1 m (Nat.le_refl _) _ _ K
def W_X5_over_36 : List (Nat × Nat) := [(36, 1000)]
noncomputable def B_X5_over_36_2 (c0 : Nat) (c1 : Nat) (s : (Int32 × zH)) : (Int32 × zH) ⊕ (zH) := (if s.1 < (8 : Int32) then (letf (hput s.2 c1 s.1.toNatClampNeg (.inl (.int (hv s.2 c0 s.1.toNatClampNeg)))) (fun h1001 => (Sum.inl ((s.1 + (1 : Int32)), h1001)))) else (Sum.inr s.2))
noncomputable def F_X5_over_36 (h : zH) (q0 : Nat) (q1 : Nat) : zH := (fx (B_X5_over_36_2 q0 q1) [] ((0 : Int32), h))
theorem x_X5_over_36 {scr : List zV} {T : List Nat} {h : zH} {q0 : Nat} {q1 : Nat} (hsc : cT scr) (K : hOK kty T h) (hq_q0 : T[q0]? = some 36) (hq_q1 : T[q1]? = some 36) (hh : cH h) : xH scr W_X5_over_36 T T 206 [.inl (.ref q0), .inl (.ref q1)] h (F_X5_over_36 h q0 q1) := by
  refine xH_intro (E := ze_X5_over) hsc rfl (cTb_ok rfl) hh (fun d r h' G HG Pf hR m => ?_)
  have K := kOK_refl (W := W_X5_over_36) K
  unfold F_X5_over_36
  show G m _ (0, [(0, .inl (.ref q0)), (1, .inl (.ref q1))], [], h, 0, 0)
  refine k_steps HG 2 (zB_iff.mpr (?_ : G m _ (2, [(2, .inl (.int (0 : Int32))), (0, .inl (.ref q0)), (1, .inl (.ref q1))], [], h, 0, 0)))
  have lp1 : ∀ m1, m1 ≤ m → ∀ (v1_2 : Int32) (h1 : zH), kOK W_X5_over_36 T T h h1 → G m1 (Pf (fx (B_X5_over_36_2 q0 q1) [] (v1_2, h1))) (2, [(0, .inl (.ref q0)), (1, .inl (.ref q1)), (2, .inl (.int v1_2))], [], h1, 0, 0) := by
    intro m1
    induction m1 with
    | zero =>
      intros
      exact k_zero HG
    | succ m1 ih1 =>
      intro le1 v1_2 h1 K1
      have le1 := Nat.le_of_succ_le le1
      have ih1 := ih1 le1
      refine k_fx ?_
      rw [B_X5_over_36_2]
      refine k_first HG 1 (zB_iff.mpr (?_ : G m1 _ (4, [(0, .inl (.ref q0)), (1, .inl (.ref q1)), (2, .inl (.int v1_2))], [.inl (.ref q0), .inl (.int v1_2)], h1, 0, 0)))
      refine k_len HG rfl K1 hq_q0 (Nat.le_of_ble_eq_true rfl) rfl (?_ : G m1 _ (5, [(0, .inl (.ref q0)), (1, .inl (.ref q1)), (2, .inl (.int v1_2))], [.inl (.int (8 : Int32)), .inl (.int v1_2)], h1, 0, 0))
      refine k_steps HG 1 (kb_ge (x := v1_2) (y := (8 : Int32)) ?_ ?_)
      · show G m1 _ (20, [(0, .inl (.ref q0)), (1, .inl (.ref q1)), (2, .inl (.int v1_2))], [], h1, 0, 0)
        exact k_retv HG rfl rfl (fun e1 e2 => hR _ e1 e2 K1)
      · show G m1 _ (8, [(0, .inl (.ref q0)), (1, .inl (.ref q1)), (2, .inl (.int v1_2))], [], h1, 0, 0)
        refine k_steps HG 4 (zB_iff.mpr (?_ : G m1 _ (12, [(0, .inl (.ref q0)), (1, .inl (.ref q1)), (2, .inl (.int v1_2))], [.inl (.int v1_2), .inl (.ref q0), .inl (.int v1_2), .inl (.ref q1)], h1, 0, 0)))
        refine k_iald HG rfl K1 hq_q0 rfl (fun _ => rfl) (?_ : G m1 _ (13, [(0, .inl (.ref q0)), (1, .inl (.ref q1)), (2, .inl (.int v1_2))], [.inl (.int (hv h1 q0 v1_2.toNatClampNeg)), .inl (.int v1_2), .inl (.ref q1)], h1, 0, 0))
        refine k_iast HG rfl K1 hq_q1 rfl (fun _ => rfl) rfl (fun h2 K2 => (?_ : G m1 _ (14, [(0, .inl (.ref q0)), (1, .inl (.ref q1)), (2, .inl (.int v1_2))], [], h2, 0, 0)))
        refine k_steps HG 2 (zB_iff.mpr (?_ : G m1 _ (2, [(2, .inl (.int (v1_2 + (1 : Int32)))), (0, .inl (.ref q0)), (1, .inl (.ref q1))], [], h2, 0, 0)))
        refine k_ext HG (L' := [(0, .inl (.ref q0)), (1, .inl (.ref q1)), (2, .inl (.int (v1_2 + (1 : Int32))))]) rfl rfl ⟨rfl, rfl, rfl, trivial⟩ ?_
        exact ih1 _ _ K2
  refine k_ext HG (L' := [(0, .inl (.ref q0)), (1, .inl (.ref q1)), (2, .inl (.int (0 : Int32)))]) rfl rfl ⟨rfl, rfl, rfl, trivial⟩ ?_
  exact lp1 m (Nat.le_refl _) _ _ K
def W_X5_over_37 : List (Nat × Nat) := [(37, 1000)]
noncomputable def B_X5_over_37_2 (c0 : Nat) (c1 : Nat) (s : (Int32 × zH)) : (Int32 × zH) ⊕ (zH) := (if s.1 < (4 : Int32) then (letf (hput s.2 c1 s.1.toNatClampNeg (.inl (.int (hv s.2 c0 s.1.toNatClampNeg)))) (fun h1001 => (Sum.inl ((s.1 + (1 : Int32)), h1001)))) else (Sum.inr s.2))
noncomputable def F_X5_over_37 (h : zH) (q0 : Nat) (q1 : Nat) : zH := (fx (B_X5_over_37_2 q0 q1) [] ((0 : Int32), h))
theorem x_X5_over_37 {scr : List zV} {T : List Nat} {h : zH} {q0 : Nat} {q1 : Nat} (hsc : cT scr) (K : hOK kty T h) (hq_q0 : T[q0]? = some 37) (hq_q1 : T[q1]? = some 37) (hh : cH h) : xH scr W_X5_over_37 T T 206 [.inl (.ref q0), .inl (.ref q1)] h (F_X5_over_37 h q0 q1) := by
  refine xH_intro (E := ze_X5_over) hsc rfl (cTb_ok rfl) hh (fun d r h' G HG Pf hR m => ?_)
  have K := kOK_refl (W := W_X5_over_37) K
  unfold F_X5_over_37
  show G m _ (0, [(0, .inl (.ref q0)), (1, .inl (.ref q1))], [], h, 0, 0)
  refine k_steps HG 2 (zB_iff.mpr (?_ : G m _ (2, [(2, .inl (.int (0 : Int32))), (0, .inl (.ref q0)), (1, .inl (.ref q1))], [], h, 0, 0)))
  have lp1 : ∀ m1, m1 ≤ m → ∀ (v1_2 : Int32) (h1 : zH), kOK W_X5_over_37 T T h h1 → G m1 (Pf (fx (B_X5_over_37_2 q0 q1) [] (v1_2, h1))) (2, [(0, .inl (.ref q0)), (1, .inl (.ref q1)), (2, .inl (.int v1_2))], [], h1, 0, 0) := by
    intro m1
    induction m1 with
    | zero =>
      intros
      exact k_zero HG
    | succ m1 ih1 =>
      intro le1 v1_2 h1 K1
      have le1 := Nat.le_of_succ_le le1
      have ih1 := ih1 le1
      refine k_fx ?_
      rw [B_X5_over_37_2]
      refine k_first HG 1 (zB_iff.mpr (?_ : G m1 _ (4, [(0, .inl (.ref q0)), (1, .inl (.ref q1)), (2, .inl (.int v1_2))], [.inl (.ref q0), .inl (.int v1_2)], h1, 0, 0)))
      refine k_len HG rfl K1 hq_q0 (Nat.le_of_ble_eq_true rfl) rfl (?_ : G m1 _ (5, [(0, .inl (.ref q0)), (1, .inl (.ref q1)), (2, .inl (.int v1_2))], [.inl (.int (4 : Int32)), .inl (.int v1_2)], h1, 0, 0))
      refine k_steps HG 1 (kb_ge (x := v1_2) (y := (4 : Int32)) ?_ ?_)
      · show G m1 _ (20, [(0, .inl (.ref q0)), (1, .inl (.ref q1)), (2, .inl (.int v1_2))], [], h1, 0, 0)
        exact k_retv HG rfl rfl (fun e1 e2 => hR _ e1 e2 K1)
      · show G m1 _ (8, [(0, .inl (.ref q0)), (1, .inl (.ref q1)), (2, .inl (.int v1_2))], [], h1, 0, 0)
        refine k_steps HG 4 (zB_iff.mpr (?_ : G m1 _ (12, [(0, .inl (.ref q0)), (1, .inl (.ref q1)), (2, .inl (.int v1_2))], [.inl (.int v1_2), .inl (.ref q0), .inl (.int v1_2), .inl (.ref q1)], h1, 0, 0)))
        refine k_iald HG rfl K1 hq_q0 rfl (fun _ => rfl) (?_ : G m1 _ (13, [(0, .inl (.ref q0)), (1, .inl (.ref q1)), (2, .inl (.int v1_2))], [.inl (.int (hv h1 q0 v1_2.toNatClampNeg)), .inl (.int v1_2), .inl (.ref q1)], h1, 0, 0))
        refine k_iast HG rfl K1 hq_q1 rfl (fun _ => rfl) rfl (fun h2 K2 => (?_ : G m1 _ (14, [(0, .inl (.ref q0)), (1, .inl (.ref q1)), (2, .inl (.int v1_2))], [], h2, 0, 0)))
        refine k_steps HG 2 (zB_iff.mpr (?_ : G m1 _ (2, [(2, .inl (.int (v1_2 + (1 : Int32)))), (0, .inl (.ref q0)), (1, .inl (.ref q1))], [], h2, 0, 0)))
        refine k_ext HG (L' := [(0, .inl (.ref q0)), (1, .inl (.ref q1)), (2, .inl (.int (v1_2 + (1 : Int32))))]) rfl rfl ⟨rfl, rfl, rfl, trivial⟩ ?_
        exact ih1 _ _ K2
  refine k_ext HG (L' := [(0, .inl (.ref q0)), (1, .inl (.ref q1)), (2, .inl (.int (0 : Int32)))]) rfl rfl ⟨rfl, rfl, rfl, trivial⟩ ?_
  exact lp1 m (Nat.le_refl _) _ _ K
def W_X5_over_39 : List (Nat × Nat) := [(39, 1000)]
noncomputable def B_X5_over_39_2 (c0 : Nat) (c1 : Nat) (s : (Int32 × zH)) : (Int32 × zH) ⊕ (zH) := (if s.1 < (8 : Int32) then (letf (hput s.2 c1 s.1.toNatClampNeg (.inl (.int (hv s.2 c0 s.1.toNatClampNeg)))) (fun h1001 => (Sum.inl ((s.1 + (1 : Int32)), h1001)))) else (Sum.inr s.2))
noncomputable def F_X5_over_39 (h : zH) (q0 : Nat) (q1 : Nat) : zH := (fx (B_X5_over_39_2 q0 q1) [] ((0 : Int32), h))
theorem x_X5_over_39 {scr : List zV} {T : List Nat} {h : zH} {q0 : Nat} {q1 : Nat} (hsc : cT scr) (K : hOK kty T h) (hq_q0 : T[q0]? = some 39) (hq_q1 : T[q1]? = some 39) (hh : cH h) : xH scr W_X5_over_39 T T 206 [.inl (.ref q0), .inl (.ref q1)] h (F_X5_over_39 h q0 q1) := by
  refine xH_intro (E := ze_X5_over) hsc rfl (cTb_ok rfl) hh (fun d r h' G HG Pf hR m => ?_)
  have K := kOK_refl (W := W_X5_over_39) K
  unfold F_X5_over_39
  show G m _ (0, [(0, .inl (.ref q0)), (1, .inl (.ref q1))], [], h, 0, 0)
  refine k_steps HG 2 (zB_iff.mpr (?_ : G m _ (2, [(2, .inl (.int (0 : Int32))), (0, .inl (.ref q0)), (1, .inl (.ref q1))], [], h, 0, 0)))
  have lp1 : ∀ m1, m1 ≤ m → ∀ (v1_2 : Int32) (h1 : zH), kOK W_X5_over_39 T T h h1 → G m1 (Pf (fx (B_X5_over_39_2 q0 q1) [] (v1_2, h1))) (2, [(0, .inl (.ref q0)), (1, .inl (.ref q1)), (2, .inl (.int v1_2))], [], h1, 0, 0) := by
    intro m1
    induction m1 with
    | zero =>
      intros
      exact k_zero HG
    | succ m1 ih1 =>
      intro le1 v1_2 h1 K1
      have le1 := Nat.le_of_succ_le le1
      have ih1 := ih1 le1
      refine k_fx ?_
      rw [B_X5_over_39_2]
      refine k_first HG 1 (zB_iff.mpr (?_ : G m1 _ (4, [(0, .inl (.ref q0)), (1, .inl (.ref q1)), (2, .inl (.int v1_2))], [.inl (.ref q0), .inl (.int v1_2)], h1, 0, 0)))
      refine k_len HG rfl K1 hq_q0 (Nat.le_of_ble_eq_true rfl) rfl (?_ : G m1 _ (5, [(0, .inl (.ref q0)), (1, .inl (.ref q1)), (2, .inl (.int v1_2))], [.inl (.int (8 : Int32)), .inl (.int v1_2)], h1, 0, 0))
      refine k_steps HG 1 (kb_ge (x := v1_2) (y := (8 : Int32)) ?_ ?_)
      · show G m1 _ (20, [(0, .inl (.ref q0)), (1, .inl (.ref q1)), (2, .inl (.int v1_2))], [], h1, 0, 0)
        exact k_retv HG rfl rfl (fun e1 e2 => hR _ e1 e2 K1)
      · show G m1 _ (8, [(0, .inl (.ref q0)), (1, .inl (.ref q1)), (2, .inl (.int v1_2))], [], h1, 0, 0)
        refine k_steps HG 4 (zB_iff.mpr (?_ : G m1 _ (12, [(0, .inl (.ref q0)), (1, .inl (.ref q1)), (2, .inl (.int v1_2))], [.inl (.int v1_2), .inl (.ref q0), .inl (.int v1_2), .inl (.ref q1)], h1, 0, 0)))
        refine k_iald HG rfl K1 hq_q0 rfl (fun _ => rfl) (?_ : G m1 _ (13, [(0, .inl (.ref q0)), (1, .inl (.ref q1)), (2, .inl (.int v1_2))], [.inl (.int (hv h1 q0 v1_2.toNatClampNeg)), .inl (.int v1_2), .inl (.ref q1)], h1, 0, 0))
        refine k_iast HG rfl K1 hq_q1 rfl (fun _ => rfl) rfl (fun h2 K2 => (?_ : G m1 _ (14, [(0, .inl (.ref q0)), (1, .inl (.ref q1)), (2, .inl (.int v1_2))], [], h2, 0, 0)))
        refine k_steps HG 2 (zB_iff.mpr (?_ : G m1 _ (2, [(2, .inl (.int (v1_2 + (1 : Int32)))), (0, .inl (.ref q0)), (1, .inl (.ref q1))], [], h2, 0, 0)))
        refine k_ext HG (L' := [(0, .inl (.ref q0)), (1, .inl (.ref q1)), (2, .inl (.int (v1_2 + (1 : Int32))))]) rfl rfl ⟨rfl, rfl, rfl, trivial⟩ ?_
        exact ih1 _ _ K2
  refine k_ext HG (L' := [(0, .inl (.ref q0)), (1, .inl (.ref q1)), (2, .inl (.int (0 : Int32)))]) rfl rfl ⟨rfl, rfl, rfl, trivial⟩ ?_
  exact lp1 m (Nat.le_refl _) _ _ K
noncomputable def B_X5_owned_4 (h : zH) (c0 : Nat) (c1 : Int32) (s : (Int32 × Int32)) : (Int32 × Int32) ⊕ (Int32) := (if s.2 < (hv h c0 17) then (if (hv h (hr h c0 22) s.2.toNatClampNeg) = c1 then (Sum.inl ((s.1 ||| ((1 : Int32) <<< (s.2 &&& 31))), (s.2 + (1 : Int32)))) else (Sum.inl ((s.1 ||| (0 : Int32)), (s.2 + (1 : Int32))))) else (Sum.inr s.1))
noncomputable def F_X5_owned (h : zH) (q0 : Nat) (a1 : Int32) : Int32 := (fx (B_X5_owned_4 h q0 a1) 0 ((0 : Int32), (0 : Int32)))
theorem x_X5_owned {scr : List zV} {T : List Nat} {h : zH} {q0 : Nat} {a1 : Int32} (hsc : cT scr) (K : hOK kty T h) (hq_q0 : T[q0]? = some 5) (hh : cH h) : xI scr 207 [.inl (.ref q0), .inl (.int a1)] h (F_X5_owned h q0 a1) := by
  refine xI_intro (E := ze_X5_owned) hsc rfl (cTb_ok rfl) hh (fun d r h' G HG Pf hR m => ?_)
  have K := kOK_refl (W := []) K
  unfold F_X5_owned
  show G m _ (0, [(0, .inl (.ref q0)), (1, .inl (.int a1))], [], h, 0, 0)
  refine k_steps HG 4 (zB_iff.mpr (?_ : G m _ (4, [(3, .inl (.int (0 : Int32))), (2, .inl (.int (0 : Int32))), (0, .inl (.ref q0)), (1, .inl (.int a1))], [], h, 0, 0)))
  have lp1 : ∀ m1, m1 ≤ m → ∀ (v1_2 : Int32) (v1_3 : Int32), G m1 (Pf (fx (B_X5_owned_4 h q0 a1) 0 (v1_2, v1_3))) (4, [(0, .inl (.ref q0)), (1, .inl (.int a1)), (2, .inl (.int v1_2)), (3, .inl (.int v1_3))], [], h, 0, 0) := by
    intro m1
    induction m1 with
    | zero =>
      intros
      exact k_zero HG
    | succ m1 ih1 =>
      intro le1 v1_2 v1_3
      have le1 := Nat.le_of_succ_le le1
      have ih1 := ih1 le1
      refine k_fx ?_
      rw [B_X5_owned_4]
      refine k_first HG 1 (zB_iff.mpr (?_ : G m1 _ (6, [(0, .inl (.ref q0)), (1, .inl (.int a1)), (2, .inl (.int v1_2)), (3, .inl (.int v1_3))], [.inl (.ref q0), .inl (.int v1_3)], h, 0, 0)))
      refine k_getI HG rfl K hq_q0 rfl (Nat.le_of_ble_eq_true rfl) rfl (?_ : G m1 _ (9, [(0, .inl (.ref q0)), (1, .inl (.int a1)), (2, .inl (.int v1_2)), (3, .inl (.int v1_3))], [.inl (.int (hv h q0 17)), .inl (.int v1_3)], h, 0, 0))
      refine k_steps HG 1 (kb_ge (x := v1_3) (y := (hv h q0 17)) ?_ ?_)
      · show G m1 _ (38, [(0, .inl (.ref q0)), (1, .inl (.int a1)), (2, .inl (.int v1_2)), (3, .inl (.int v1_3))], [], h, 0, 0)
        refine k_steps HG 1 (zB_iff.mpr (?_ : G m1 _ (39, [(0, .inl (.ref q0)), (1, .inl (.int a1)), (2, .inl (.int v1_2)), (3, .inl (.int v1_3))], [.inl (.int v1_2)], h, 0, 0)))
        exact k_reti HG rfl rfl (fun e1 e2 => hR _ e1 e2)
      · show G m1 _ (12, [(0, .inl (.ref q0)), (1, .inl (.int a1)), (2, .inl (.int v1_2)), (3, .inl (.int v1_3))], [], h, 0, 0)
        refine k_steps HG 2 (zB_iff.mpr (?_ : G m1 _ (14, [(0, .inl (.ref q0)), (1, .inl (.int a1)), (2, .inl (.int v1_2)), (3, .inl (.int v1_3))], [.inl (.ref q0), .inl (.int v1_2)], h, 0, 0)))
        refine k_getR HG rfl K hq_q0 rfl (Nat.le_of_ble_eq_true rfl) rfl rfl (fun t2 => (?_ : G m1 _ (17, [(0, .inl (.ref q0)), (1, .inl (.int a1)), (2, .inl (.int v1_2)), (3, .inl (.int v1_3))], [.inl (.ref (hr h q0 22)), .inl (.int v1_2)], h, 0, 0)))
        refine k_steps HG 1 (zB_iff.mpr (?_ : G m1 _ (18, [(0, .inl (.ref q0)), (1, .inl (.int a1)), (2, .inl (.int v1_2)), (3, .inl (.int v1_3))], [.inl (.int v1_3), .inl (.ref (hr h q0 22)), .inl (.int v1_2)], h, 0, 0)))
        refine k_iald HG rfl K t2 rfl (fun _ => rfl) (?_ : G m1 _ (19, [(0, .inl (.ref q0)), (1, .inl (.int a1)), (2, .inl (.int v1_2)), (3, .inl (.int v1_3))], [.inl (.int (hv h (hr h q0 22) v1_3.toNatClampNeg)), .inl (.int v1_2)], h, 0, 0))
        refine k_steps HG 2 (kb_ne (x := (hv h (hr h q0 22) v1_3.toNatClampNeg)) (y := a1) ?_ ?_)
        · show G m1 _ (29, [(0, .inl (.ref q0)), (1, .inl (.int a1)), (2, .inl (.int v1_2)), (3, .inl (.int v1_3))], [.inl (.int v1_2)], h, 0, 0)
          refine k_steps HG 5 (zB_iff.mpr (?_ : G m1 _ (4, [(3, .inl (.int (v1_3 + (1 : Int32)))), (2, .inl (.int (v1_2 ||| (0 : Int32)))), (0, .inl (.ref q0)), (1, .inl (.int a1))], [], h, 0, 0)))
          refine k_ext HG (L' := [(0, .inl (.ref q0)), (1, .inl (.int a1)), (2, .inl (.int (v1_2 ||| (0 : Int32)))), (3, .inl (.int (v1_3 + (1 : Int32))))]) rfl rfl ⟨rfl, rfl, rfl, rfl, trivial⟩ ?_
          exact ih1 _ _
        · show G m1 _ (23, [(0, .inl (.ref q0)), (1, .inl (.int a1)), (2, .inl (.int v1_2)), (3, .inl (.int v1_3))], [.inl (.int v1_2)], h, 0, 0)
          refine k_steps HG 8 (zB_iff.mpr (?_ : G m1 _ (4, [(3, .inl (.int (v1_3 + (1 : Int32)))), (2, .inl (.int (v1_2 ||| ((1 : Int32) <<< (v1_3 &&& 31))))), (0, .inl (.ref q0)), (1, .inl (.int a1))], [], h, 0, 0)))
          refine k_ext HG (L' := [(0, .inl (.ref q0)), (1, .inl (.int a1)), (2, .inl (.int (v1_2 ||| ((1 : Int32) <<< (v1_3 &&& 31))))), (3, .inl (.int (v1_3 + (1 : Int32))))]) rfl rfl ⟨rfl, rfl, rfl, rfl, trivial⟩ ?_
          exact ih1 _ _
  refine k_ext HG (L' := [(0, .inl (.ref q0)), (1, .inl (.int a1)), (2, .inl (.int (0 : Int32))), (3, .inl (.int (0 : Int32)))]) rfl rfl ⟨rfl, rfl, rfl, rfl, trivial⟩ ?_
  exact lp1 m (Nat.le_refl _) _ _
def W_X5_refuse : List (Nat × Nat) := [(30, 1000)]
noncomputable def F_X5_refuse (h : zH) (q0 : Nat) (a1 : Int32) : Int32 × zH := (letf (hput h (hr h q0 8) (-a1).toNatClampNeg (.inl (.int ((hv h (hr h q0 8) (-a1).toNatClampNeg) + (1 : Int32))))) (fun h2 => (a1, h2)))
theorem x_X5_refuse {scr : List zV} {T : List Nat} {h : zH} {q0 : Nat} {a1 : Int32} (hsc : cT scr) (K : hOK kty T h) (hq_q0 : T[q0]? = some 5) (hh : cH h) : xIH scr W_X5_refuse T T 216 [.inl (.ref q0), .inl (.int a1)] h (F_X5_refuse h q0 a1) := by
  refine xIH_intro (E := ze_X5_refuse) hsc rfl (cTb_ok rfl) hh (fun d r h' G HG Pf hR m => ?_)
  have K := kOK_refl (W := W_X5_refuse) K
  unfold F_X5_refuse
  show G m _ (0, [(0, .inl (.ref q0)), (1, .inl (.int a1))], [], h, 0, 0)
  refine k_steps HG 1 (zB_iff.mpr (?_ : G m _ (1, [(0, .inl (.ref q0)), (1, .inl (.int a1))], [.inl (.ref q0)], h, 0, 0)))
  refine k_getR HG rfl K hq_q0 rfl (Nat.le_of_ble_eq_true rfl) rfl rfl (fun t1 => (?_ : G m _ (4, [(0, .inl (.ref q0)), (1, .inl (.int a1))], [.inl (.ref (hr h q0 8))], h, 0, 0)))
  refine k_steps HG 3 (zB_iff.mpr (?_ : G m _ (7, [(0, .inl (.ref q0)), (1, .inl (.int a1))], [.inl (.int (-a1)), .inl (.ref (hr h q0 8)), .inl (.int (-a1)), .inl (.ref (hr h q0 8))], h, 0, 0)))
  refine k_iald HG rfl K t1 rfl (fun _ => rfl) (?_ : G m _ (8, [(0, .inl (.ref q0)), (1, .inl (.int a1))], [.inl (.int (hv h (hr h q0 8) (-a1).toNatClampNeg)), .inl (.int (-a1)), .inl (.ref (hr h q0 8))], h, 0, 0))
  refine k_steps HG 2 (zB_iff.mpr (?_ : G m _ (10, [(0, .inl (.ref q0)), (1, .inl (.int a1))], [.inl (.int ((hv h (hr h q0 8) (-a1).toNatClampNeg) + (1 : Int32))), .inl (.int (-a1)), .inl (.ref (hr h q0 8))], h, 0, 0)))
  refine k_iast HG rfl K t1 rfl (fun _ => rfl) rfl (fun h2 K2 => (?_ : G m _ (11, [(0, .inl (.ref q0)), (1, .inl (.int a1))], [], h2, 0, 0)))
  refine k_steps HG 1 (zB_iff.mpr (?_ : G m _ (12, [(0, .inl (.ref q0)), (1, .inl (.int a1))], [.inl (.int a1)], h2, 0, 0)))
  exact k_reti HG rfl rfl (fun e1 e2 => hR _ _ e1 e2 K2)
def W_X5_seed : List (Nat × Nat) := [(5, 15)]
noncomputable def F_X5_seed (h : zH) (q0 : Nat) (a1 : Int32) : Int32 × zH := (letf (hput h q0 15 (.inl (.int a1))) (fun h1 => ((hv h q0 15), h1)))
theorem x_X5_seed {scr : List zV} {T : List Nat} {h : zH} {q0 : Nat} {a1 : Int32} (hsc : cT scr) (K : hOK kty T h) (hq_q0 : T[q0]? = some 5) (hh : cH h) : xIH scr W_X5_seed T T 220 [.inl (.ref q0), .inl (.int a1)] h (F_X5_seed h q0 a1) := by
  refine xIH_intro (E := ze_X5_seed) hsc rfl (cTb_ok rfl) hh (fun d r h' G HG Pf hR m => ?_)
  have K := kOK_refl (W := W_X5_seed) K
  unfold F_X5_seed
  show G m _ (0, [(0, .inl (.ref q0)), (1, .inl (.int a1))], [], h, 0, 0)
  refine k_steps HG 1 (zB_iff.mpr (?_ : G m _ (1, [(0, .inl (.ref q0)), (1, .inl (.int a1))], [.inl (.ref q0)], h, 0, 0)))
  refine k_getI HG rfl K hq_q0 rfl (Nat.le_of_ble_eq_true rfl) rfl (?_ : G m _ (4, [(0, .inl (.ref q0)), (1, .inl (.int a1))], [.inl (.int (hv h q0 15))], h, 0, 0))
  refine k_steps HG 3 (zB_iff.mpr (?_ : G m _ (7, [(2, .inl (.int (hv h q0 15))), (0, .inl (.ref q0)), (1, .inl (.int a1))], [.inl (.int a1), .inl (.ref q0)], h, 0, 0)))
  refine k_putI HG rfl K hq_q0 rfl rfl rfl (fun h1 K1 => (?_ : G m _ (10, [(2, .inl (.int (hv h q0 15))), (0, .inl (.ref q0)), (1, .inl (.int a1))], [], h1, 0, 0)))
  refine k_steps HG 1 (zB_iff.mpr (?_ : G m _ (11, [(2, .inl (.int (hv h q0 15))), (0, .inl (.ref q0)), (1, .inl (.int a1))], [.inl (.int (hv h q0 15))], h1, 0, 0)))
  exact k_reti HG rfl rfl (fun e1 e2 => hR _ _ e1 e2 K1)
noncomputable def B_X5_standing_4 (h : zH) (c0 : Nat) (s : (Int32 × Int32)) : (Int32 × Int32) ⊕ (Int32) := (if s.2 < (hv h c0 17) then (if (hv h (hr h c0 22) s.2.toNatClampNeg) = (-1 : Int32) then (Sum.inl ((s.1 ||| ((1 : Int32) <<< (s.2 &&& 31))), (s.2 + (1 : Int32)))) else (Sum.inl ((s.1 ||| (0 : Int32)), (s.2 + (1 : Int32))))) else (Sum.inr s.1))
noncomputable def F_X5_standing (h : zH) (q0 : Nat) : Int32 := (fx (B_X5_standing_4 h q0) 0 ((0 : Int32), (0 : Int32)))
theorem x_X5_standing {scr : List zV} {T : List Nat} {h : zH} {q0 : Nat} (hsc : cT scr) (K : hOK kty T h) (hq_q0 : T[q0]? = some 5) (hh : cH h) : xI scr 226 [.inl (.ref q0)] h (F_X5_standing h q0) := by
  refine xI_intro (E := ze_X5_standing) hsc rfl (cTb_ok rfl) hh (fun d r h' G HG Pf hR m => ?_)
  have K := kOK_refl (W := []) K
  unfold F_X5_standing
  show G m _ (0, [(0, .inl (.ref q0))], [], h, 0, 0)
  refine k_steps HG 4 (zB_iff.mpr (?_ : G m _ (4, [(2, .inl (.int (0 : Int32))), (1, .inl (.int (0 : Int32))), (0, .inl (.ref q0))], [], h, 0, 0)))
  have lp1 : ∀ m1, m1 ≤ m → ∀ (v1_1 : Int32) (v1_2 : Int32), G m1 (Pf (fx (B_X5_standing_4 h q0) 0 (v1_1, v1_2))) (4, [(0, .inl (.ref q0)), (1, .inl (.int v1_1)), (2, .inl (.int v1_2))], [], h, 0, 0) := by
    intro m1
    induction m1 with
    | zero =>
      intros
      exact k_zero HG
    | succ m1 ih1 =>
      intro le1 v1_1 v1_2
      have le1 := Nat.le_of_succ_le le1
      have ih1 := ih1 le1
      refine k_fx ?_
      rw [B_X5_standing_4]
      refine k_first HG 1 (zB_iff.mpr (?_ : G m1 _ (6, [(0, .inl (.ref q0)), (1, .inl (.int v1_1)), (2, .inl (.int v1_2))], [.inl (.ref q0), .inl (.int v1_2)], h, 0, 0)))
      refine k_getI HG rfl K hq_q0 rfl (Nat.le_of_ble_eq_true rfl) rfl (?_ : G m1 _ (9, [(0, .inl (.ref q0)), (1, .inl (.int v1_1)), (2, .inl (.int v1_2))], [.inl (.int (hv h q0 17)), .inl (.int v1_2)], h, 0, 0))
      refine k_steps HG 1 (kb_ge (x := v1_2) (y := (hv h q0 17)) ?_ ?_)
      · show G m1 _ (38, [(0, .inl (.ref q0)), (1, .inl (.int v1_1)), (2, .inl (.int v1_2))], [], h, 0, 0)
        refine k_steps HG 1 (zB_iff.mpr (?_ : G m1 _ (39, [(0, .inl (.ref q0)), (1, .inl (.int v1_1)), (2, .inl (.int v1_2))], [.inl (.int v1_1)], h, 0, 0)))
        exact k_reti HG rfl rfl (fun e1 e2 => hR _ e1 e2)
      · show G m1 _ (12, [(0, .inl (.ref q0)), (1, .inl (.int v1_1)), (2, .inl (.int v1_2))], [], h, 0, 0)
        refine k_steps HG 2 (zB_iff.mpr (?_ : G m1 _ (14, [(0, .inl (.ref q0)), (1, .inl (.int v1_1)), (2, .inl (.int v1_2))], [.inl (.ref q0), .inl (.int v1_1)], h, 0, 0)))
        refine k_getR HG rfl K hq_q0 rfl (Nat.le_of_ble_eq_true rfl) rfl rfl (fun t2 => (?_ : G m1 _ (17, [(0, .inl (.ref q0)), (1, .inl (.int v1_1)), (2, .inl (.int v1_2))], [.inl (.ref (hr h q0 22)), .inl (.int v1_1)], h, 0, 0)))
        refine k_steps HG 1 (zB_iff.mpr (?_ : G m1 _ (18, [(0, .inl (.ref q0)), (1, .inl (.int v1_1)), (2, .inl (.int v1_2))], [.inl (.int v1_2), .inl (.ref (hr h q0 22)), .inl (.int v1_1)], h, 0, 0)))
        refine k_iald HG rfl K t2 rfl (fun _ => rfl) (?_ : G m1 _ (19, [(0, .inl (.ref q0)), (1, .inl (.int v1_1)), (2, .inl (.int v1_2))], [.inl (.int (hv h (hr h q0 22) v1_2.toNatClampNeg)), .inl (.int v1_1)], h, 0, 0))
        refine k_steps HG 2 (kb_ne (x := (hv h (hr h q0 22) v1_2.toNatClampNeg)) (y := (-1 : Int32)) ?_ ?_)
        · show G m1 _ (29, [(0, .inl (.ref q0)), (1, .inl (.int v1_1)), (2, .inl (.int v1_2))], [.inl (.int v1_1)], h, 0, 0)
          refine k_steps HG 5 (zB_iff.mpr (?_ : G m1 _ (4, [(2, .inl (.int (v1_2 + (1 : Int32)))), (1, .inl (.int (v1_1 ||| (0 : Int32)))), (0, .inl (.ref q0))], [], h, 0, 0)))
          refine k_ext HG (L' := [(0, .inl (.ref q0)), (1, .inl (.int (v1_1 ||| (0 : Int32)))), (2, .inl (.int (v1_2 + (1 : Int32))))]) rfl rfl ⟨rfl, rfl, rfl, trivial⟩ ?_
          exact ih1 _ _
        · show G m1 _ (23, [(0, .inl (.ref q0)), (1, .inl (.int v1_1)), (2, .inl (.int v1_2))], [.inl (.int v1_1)], h, 0, 0)
          refine k_steps HG 8 (zB_iff.mpr (?_ : G m1 _ (4, [(2, .inl (.int (v1_2 + (1 : Int32)))), (1, .inl (.int (v1_1 ||| ((1 : Int32) <<< (v1_2 &&& 31))))), (0, .inl (.ref q0))], [], h, 0, 0)))
          refine k_ext HG (L' := [(0, .inl (.ref q0)), (1, .inl (.int (v1_1 ||| ((1 : Int32) <<< (v1_2 &&& 31))))), (2, .inl (.int (v1_2 + (1 : Int32))))]) rfl rfl ⟨rfl, rfl, rfl, trivial⟩ ?_
          exact ih1 _ _
  refine k_ext HG (L' := [(0, .inl (.ref q0)), (1, .inl (.int (0 : Int32))), (2, .inl (.int (0 : Int32)))]) rfl rfl ⟨rfl, rfl, rfl, trivial⟩ ?_
  exact lp1 m (Nat.le_refl _) _ _
noncomputable def B_X5_standing_6_4 (h : zH) (c0 : Nat) (s : (Int32 × Int32)) : (Int32 × Int32) ⊕ (Int32) := (if s.2 < (hv h c0 17) then (if (hv h (hr h c0 22) s.2.toNatClampNeg) = (-1 : Int32) then (Sum.inl ((s.1 ||| ((1 : Int32) <<< (s.2 &&& 31))), (s.2 + (1 : Int32)))) else (Sum.inl ((s.1 ||| (0 : Int32)), (s.2 + (1 : Int32))))) else (Sum.inr s.1))
noncomputable def F_X5_standing_6 (h : zH) (q0 : Nat) : Int32 := (fx (B_X5_standing_6_4 h q0) 0 ((0 : Int32), (0 : Int32)))
theorem x_X5_standing_6 {scr : List zV} {T : List Nat} {h : zH} {q0 : Nat} (hsc : cT scr) (K : hOK kty T h) (hq_q0 : T[q0]? = some 6) (hh : cH h) : xI scr 226 [.inl (.ref q0)] h (F_X5_standing_6 h q0) := by
  refine xI_intro (E := ze_X5_standing) hsc rfl (cTb_ok rfl) hh (fun d r h' G HG Pf hR m => ?_)
  have K := kOK_refl (W := []) K
  unfold F_X5_standing_6
  show G m _ (0, [(0, .inl (.ref q0))], [], h, 0, 0)
  refine k_steps HG 4 (zB_iff.mpr (?_ : G m _ (4, [(2, .inl (.int (0 : Int32))), (1, .inl (.int (0 : Int32))), (0, .inl (.ref q0))], [], h, 0, 0)))
  have lp1 : ∀ m1, m1 ≤ m → ∀ (v1_1 : Int32) (v1_2 : Int32), G m1 (Pf (fx (B_X5_standing_6_4 h q0) 0 (v1_1, v1_2))) (4, [(0, .inl (.ref q0)), (1, .inl (.int v1_1)), (2, .inl (.int v1_2))], [], h, 0, 0) := by
    intro m1
    induction m1 with
    | zero =>
      intros
      exact k_zero HG
    | succ m1 ih1 =>
      intro le1 v1_1 v1_2
      have le1 := Nat.le_of_succ_le le1
      have ih1 := ih1 le1
      refine k_fx ?_
      rw [B_X5_standing_6_4]
      refine k_first HG 1 (zB_iff.mpr (?_ : G m1 _ (6, [(0, .inl (.ref q0)), (1, .inl (.int v1_1)), (2, .inl (.int v1_2))], [.inl (.ref q0), .inl (.int v1_2)], h, 0, 0)))
      refine k_getI HG rfl K hq_q0 rfl (Nat.le_of_ble_eq_true rfl) rfl (?_ : G m1 _ (9, [(0, .inl (.ref q0)), (1, .inl (.int v1_1)), (2, .inl (.int v1_2))], [.inl (.int (hv h q0 17)), .inl (.int v1_2)], h, 0, 0))
      refine k_steps HG 1 (kb_ge (x := v1_2) (y := (hv h q0 17)) ?_ ?_)
      · show G m1 _ (38, [(0, .inl (.ref q0)), (1, .inl (.int v1_1)), (2, .inl (.int v1_2))], [], h, 0, 0)
        refine k_steps HG 1 (zB_iff.mpr (?_ : G m1 _ (39, [(0, .inl (.ref q0)), (1, .inl (.int v1_1)), (2, .inl (.int v1_2))], [.inl (.int v1_1)], h, 0, 0)))
        exact k_reti HG rfl rfl (fun e1 e2 => hR _ e1 e2)
      · show G m1 _ (12, [(0, .inl (.ref q0)), (1, .inl (.int v1_1)), (2, .inl (.int v1_2))], [], h, 0, 0)
        refine k_steps HG 2 (zB_iff.mpr (?_ : G m1 _ (14, [(0, .inl (.ref q0)), (1, .inl (.int v1_1)), (2, .inl (.int v1_2))], [.inl (.ref q0), .inl (.int v1_1)], h, 0, 0)))
        refine k_getR HG rfl K hq_q0 rfl (Nat.le_of_ble_eq_true rfl) rfl rfl (fun t2 => (?_ : G m1 _ (17, [(0, .inl (.ref q0)), (1, .inl (.int v1_1)), (2, .inl (.int v1_2))], [.inl (.ref (hr h q0 22)), .inl (.int v1_1)], h, 0, 0)))
        refine k_steps HG 1 (zB_iff.mpr (?_ : G m1 _ (18, [(0, .inl (.ref q0)), (1, .inl (.int v1_1)), (2, .inl (.int v1_2))], [.inl (.int v1_2), .inl (.ref (hr h q0 22)), .inl (.int v1_1)], h, 0, 0)))
        refine k_iald HG rfl K t2 rfl (fun _ => rfl) (?_ : G m1 _ (19, [(0, .inl (.ref q0)), (1, .inl (.int v1_1)), (2, .inl (.int v1_2))], [.inl (.int (hv h (hr h q0 22) v1_2.toNatClampNeg)), .inl (.int v1_1)], h, 0, 0))
        refine k_steps HG 2 (kb_ne (x := (hv h (hr h q0 22) v1_2.toNatClampNeg)) (y := (-1 : Int32)) ?_ ?_)
        · show G m1 _ (29, [(0, .inl (.ref q0)), (1, .inl (.int v1_1)), (2, .inl (.int v1_2))], [.inl (.int v1_1)], h, 0, 0)
          refine k_steps HG 5 (zB_iff.mpr (?_ : G m1 _ (4, [(2, .inl (.int (v1_2 + (1 : Int32)))), (1, .inl (.int (v1_1 ||| (0 : Int32)))), (0, .inl (.ref q0))], [], h, 0, 0)))
          refine k_ext HG (L' := [(0, .inl (.ref q0)), (1, .inl (.int (v1_1 ||| (0 : Int32)))), (2, .inl (.int (v1_2 + (1 : Int32))))]) rfl rfl ⟨rfl, rfl, rfl, trivial⟩ ?_
          exact ih1 _ _
        · show G m1 _ (23, [(0, .inl (.ref q0)), (1, .inl (.int v1_1)), (2, .inl (.int v1_2))], [.inl (.int v1_1)], h, 0, 0)
          refine k_steps HG 8 (zB_iff.mpr (?_ : G m1 _ (4, [(2, .inl (.int (v1_2 + (1 : Int32)))), (1, .inl (.int (v1_1 ||| ((1 : Int32) <<< (v1_2 &&& 31))))), (0, .inl (.ref q0))], [], h, 0, 0)))
          refine k_ext HG (L' := [(0, .inl (.ref q0)), (1, .inl (.int (v1_1 ||| ((1 : Int32) <<< (v1_2 &&& 31))))), (2, .inl (.int (v1_2 + (1 : Int32))))]) rfl rfl ⟨rfl, rfl, rfl, trivial⟩ ?_
          exact ih1 _ _
  refine k_ext HG (L' := [(0, .inl (.ref q0)), (1, .inl (.int (0 : Int32))), (2, .inl (.int (0 : Int32)))]) rfl rfl ⟨rfl, rfl, rfl, trivial⟩ ?_
  exact lp1 m (Nat.le_refl _) _ _
noncomputable def F_X5_suspected (a0 : Int32) (a1 : Int32) : Int32 := (((1000000 : Int32) * a0) / (((2 : Int32) * a0) - a1))
theorem x_X5_suspected {scr : List zV} {h : zH} {a0 : Int32} {a1 : Int32} (hsc : cT scr) (hh : cH h) : xI scr 231 [.inl (.int a0), .inl (.int a1)] h (F_X5_suspected a0 a1) := by
  refine xI_intro (E := ze_X5_suspected) hsc rfl (cTb_ok rfl) hh (fun d r h' G HG Pf hR m => ?_)
  unfold F_X5_suspected
  show G m _ (0, [(0, .inl (.int a0)), (1, .inl (.int a1))], [], h, 0, 0)
  refine k_steps HG 8 (zB_iff.mpr (?_ : G m _ (10, [(0, .inl (.int a0)), (1, .inl (.int a1))], [.inl (.int (((2 : Int32) * a0) - a1)), .inl (.int ((1000000 : Int32) * a0))], h, 0, 0)))
  refine k_div HG rfl (?_ : G m _ (11, [(0, .inl (.int a0)), (1, .inl (.int a1))], [.inl (.int (((1000000 : Int32) * a0) / (((2 : Int32) * a0) - a1)))], h, 0, 0))
  exact k_reti HG rfl rfl (fun e1 e2 => hR _ e1 e2)
noncomputable def B_X5_thingOn_2 (h : zH) (c0 : Nat) (c1 : Int32) (s : (Int32)) : (Int32) ⊕ (Int32) := (if s < (hv h c0 17) then (if (hv h (hr h c0 19) s.toNatClampNeg) = c1 then (Sum.inr s) else (Sum.inl (s + (1 : Int32)))) else (Sum.inr (-1 : Int32)))
noncomputable def F_X5_thingOn (h : zH) (q0 : Nat) (a1 : Int32) : Int32 := (fx (B_X5_thingOn_2 h q0 a1) 0 (0 : Int32))
theorem x_X5_thingOn {scr : List zV} {T : List Nat} {h : zH} {q0 : Nat} {a1 : Int32} (hsc : cT scr) (K : hOK kty T h) (hq_q0 : T[q0]? = some 5) (hh : cH h) : xI scr 238 [.inl (.ref q0), .inl (.int a1)] h (F_X5_thingOn h q0 a1) := by
  refine xI_intro (E := ze_X5_thingOn) hsc rfl (cTb_ok rfl) hh (fun d r h' G HG Pf hR m => ?_)
  have K := kOK_refl (W := []) K
  unfold F_X5_thingOn
  show G m _ (0, [(0, .inl (.ref q0)), (1, .inl (.int a1))], [], h, 0, 0)
  refine k_steps HG 2 (zB_iff.mpr (?_ : G m _ (2, [(2, .inl (.int (0 : Int32))), (0, .inl (.ref q0)), (1, .inl (.int a1))], [], h, 0, 0)))
  have lp1 : ∀ m1, m1 ≤ m → ∀ (v1_2 : Int32), G m1 (Pf (fx (B_X5_thingOn_2 h q0 a1) 0 v1_2)) (2, [(0, .inl (.ref q0)), (1, .inl (.int a1)), (2, .inl (.int v1_2))], [], h, 0, 0) := by
    intro m1
    induction m1 with
    | zero =>
      intros
      exact k_zero HG
    | succ m1 ih1 =>
      intro le1 v1_2
      have le1 := Nat.le_of_succ_le le1
      have ih1 := ih1 le1
      refine k_fx ?_
      rw [B_X5_thingOn_2]
      refine k_first HG 1 (zB_iff.mpr (?_ : G m1 _ (4, [(0, .inl (.ref q0)), (1, .inl (.int a1)), (2, .inl (.int v1_2))], [.inl (.ref q0), .inl (.int v1_2)], h, 0, 0)))
      refine k_getI HG rfl K hq_q0 rfl (Nat.le_of_ble_eq_true rfl) rfl (?_ : G m1 _ (7, [(0, .inl (.ref q0)), (1, .inl (.int a1)), (2, .inl (.int v1_2))], [.inl (.int (hv h q0 17)), .inl (.int v1_2)], h, 0, 0))
      refine k_steps HG 1 (kb_ge (x := v1_2) (y := (hv h q0 17)) ?_ ?_)
      · show G m1 _ (28, [(0, .inl (.ref q0)), (1, .inl (.int a1)), (2, .inl (.int v1_2))], [], h, 0, 0)
        refine k_steps HG 1 (zB_iff.mpr (?_ : G m1 _ (29, [(0, .inl (.ref q0)), (1, .inl (.int a1)), (2, .inl (.int v1_2))], [.inl (.int (-1 : Int32))], h, 0, 0)))
        exact k_reti HG rfl rfl (fun e1 e2 => hR _ e1 e2)
      · show G m1 _ (10, [(0, .inl (.ref q0)), (1, .inl (.int a1)), (2, .inl (.int v1_2))], [], h, 0, 0)
        refine k_steps HG 1 (zB_iff.mpr (?_ : G m1 _ (11, [(0, .inl (.ref q0)), (1, .inl (.int a1)), (2, .inl (.int v1_2))], [.inl (.ref q0)], h, 0, 0)))
        refine k_getR HG rfl K hq_q0 rfl (Nat.le_of_ble_eq_true rfl) rfl rfl (fun t2 => (?_ : G m1 _ (14, [(0, .inl (.ref q0)), (1, .inl (.int a1)), (2, .inl (.int v1_2))], [.inl (.ref (hr h q0 19))], h, 0, 0)))
        refine k_steps HG 1 (zB_iff.mpr (?_ : G m1 _ (15, [(0, .inl (.ref q0)), (1, .inl (.int a1)), (2, .inl (.int v1_2))], [.inl (.int v1_2), .inl (.ref (hr h q0 19))], h, 0, 0)))
        refine k_iald HG rfl K t2 rfl (fun _ => rfl) (?_ : G m1 _ (16, [(0, .inl (.ref q0)), (1, .inl (.int a1)), (2, .inl (.int v1_2))], [.inl (.int (hv h (hr h q0 19) v1_2.toNatClampNeg))], h, 0, 0))
        refine k_steps HG 2 (kb_ne (x := (hv h (hr h q0 19) v1_2.toNatClampNeg)) (y := a1) ?_ ?_)
        · show G m1 _ (22, [(0, .inl (.ref q0)), (1, .inl (.int a1)), (2, .inl (.int v1_2))], [], h, 0, 0)
          refine k_steps HG 2 (zB_iff.mpr (?_ : G m1 _ (2, [(2, .inl (.int (v1_2 + (1 : Int32)))), (0, .inl (.ref q0)), (1, .inl (.int a1))], [], h, 0, 0)))
          refine k_ext HG (L' := [(0, .inl (.ref q0)), (1, .inl (.int a1)), (2, .inl (.int (v1_2 + (1 : Int32))))]) rfl rfl ⟨rfl, rfl, rfl, trivial⟩ ?_
          exact ih1 _
        · show G m1 _ (20, [(0, .inl (.ref q0)), (1, .inl (.int a1)), (2, .inl (.int v1_2))], [], h, 0, 0)
          refine k_steps HG 1 (zB_iff.mpr (?_ : G m1 _ (21, [(0, .inl (.ref q0)), (1, .inl (.int a1)), (2, .inl (.int v1_2))], [.inl (.int v1_2)], h, 0, 0)))
          exact k_reti HG rfl rfl (fun e1 e2 => hR _ e1 e2)
  refine k_ext HG (L' := [(0, .inl (.ref q0)), (1, .inl (.int a1)), (2, .inl (.int (0 : Int32)))]) rfl rfl ⟨rfl, rfl, rfl, trivial⟩ ?_
  exact lp1 m (Nat.le_refl _) _
noncomputable def B_X5_thingOn_6_2 (h : zH) (c0 : Nat) (c1 : Int32) (s : (Int32)) : (Int32) ⊕ (Int32) := (if s < (hv h c0 17) then (if (hv h (hr h c0 19) s.toNatClampNeg) = c1 then (Sum.inr s) else (Sum.inl (s + (1 : Int32)))) else (Sum.inr (-1 : Int32)))
noncomputable def F_X5_thingOn_6 (h : zH) (q0 : Nat) (a1 : Int32) : Int32 := (fx (B_X5_thingOn_6_2 h q0 a1) 0 (0 : Int32))
theorem x_X5_thingOn_6 {scr : List zV} {T : List Nat} {h : zH} {q0 : Nat} {a1 : Int32} (hsc : cT scr) (K : hOK kty T h) (hq_q0 : T[q0]? = some 6) (hh : cH h) : xI scr 238 [.inl (.ref q0), .inl (.int a1)] h (F_X5_thingOn_6 h q0 a1) := by
  refine xI_intro (E := ze_X5_thingOn) hsc rfl (cTb_ok rfl) hh (fun d r h' G HG Pf hR m => ?_)
  have K := kOK_refl (W := []) K
  unfold F_X5_thingOn_6
  show G m _ (0, [(0, .inl (.ref q0)), (1, .inl (.int a1))], [], h, 0, 0)
  refine k_steps HG 2 (zB_iff.mpr (?_ : G m _ (2, [(2, .inl (.int (0 : Int32))), (0, .inl (.ref q0)), (1, .inl (.int a1))], [], h, 0, 0)))
  have lp1 : ∀ m1, m1 ≤ m → ∀ (v1_2 : Int32), G m1 (Pf (fx (B_X5_thingOn_6_2 h q0 a1) 0 v1_2)) (2, [(0, .inl (.ref q0)), (1, .inl (.int a1)), (2, .inl (.int v1_2))], [], h, 0, 0) := by
    intro m1
    induction m1 with
    | zero =>
      intros
      exact k_zero HG
    | succ m1 ih1 =>
      intro le1 v1_2
      have le1 := Nat.le_of_succ_le le1
      have ih1 := ih1 le1
      refine k_fx ?_
      rw [B_X5_thingOn_6_2]
      refine k_first HG 1 (zB_iff.mpr (?_ : G m1 _ (4, [(0, .inl (.ref q0)), (1, .inl (.int a1)), (2, .inl (.int v1_2))], [.inl (.ref q0), .inl (.int v1_2)], h, 0, 0)))
      refine k_getI HG rfl K hq_q0 rfl (Nat.le_of_ble_eq_true rfl) rfl (?_ : G m1 _ (7, [(0, .inl (.ref q0)), (1, .inl (.int a1)), (2, .inl (.int v1_2))], [.inl (.int (hv h q0 17)), .inl (.int v1_2)], h, 0, 0))
      refine k_steps HG 1 (kb_ge (x := v1_2) (y := (hv h q0 17)) ?_ ?_)
      · show G m1 _ (28, [(0, .inl (.ref q0)), (1, .inl (.int a1)), (2, .inl (.int v1_2))], [], h, 0, 0)
        refine k_steps HG 1 (zB_iff.mpr (?_ : G m1 _ (29, [(0, .inl (.ref q0)), (1, .inl (.int a1)), (2, .inl (.int v1_2))], [.inl (.int (-1 : Int32))], h, 0, 0)))
        exact k_reti HG rfl rfl (fun e1 e2 => hR _ e1 e2)
      · show G m1 _ (10, [(0, .inl (.ref q0)), (1, .inl (.int a1)), (2, .inl (.int v1_2))], [], h, 0, 0)
        refine k_steps HG 1 (zB_iff.mpr (?_ : G m1 _ (11, [(0, .inl (.ref q0)), (1, .inl (.int a1)), (2, .inl (.int v1_2))], [.inl (.ref q0)], h, 0, 0)))
        refine k_getR HG rfl K hq_q0 rfl (Nat.le_of_ble_eq_true rfl) rfl rfl (fun t2 => (?_ : G m1 _ (14, [(0, .inl (.ref q0)), (1, .inl (.int a1)), (2, .inl (.int v1_2))], [.inl (.ref (hr h q0 19))], h, 0, 0)))
        refine k_steps HG 1 (zB_iff.mpr (?_ : G m1 _ (15, [(0, .inl (.ref q0)), (1, .inl (.int a1)), (2, .inl (.int v1_2))], [.inl (.int v1_2), .inl (.ref (hr h q0 19))], h, 0, 0)))
        refine k_iald HG rfl K t2 rfl (fun _ => rfl) (?_ : G m1 _ (16, [(0, .inl (.ref q0)), (1, .inl (.int a1)), (2, .inl (.int v1_2))], [.inl (.int (hv h (hr h q0 19) v1_2.toNatClampNeg))], h, 0, 0))
        refine k_steps HG 2 (kb_ne (x := (hv h (hr h q0 19) v1_2.toNatClampNeg)) (y := a1) ?_ ?_)
        · show G m1 _ (22, [(0, .inl (.ref q0)), (1, .inl (.int a1)), (2, .inl (.int v1_2))], [], h, 0, 0)
          refine k_steps HG 2 (zB_iff.mpr (?_ : G m1 _ (2, [(2, .inl (.int (v1_2 + (1 : Int32)))), (0, .inl (.ref q0)), (1, .inl (.int a1))], [], h, 0, 0)))
          refine k_ext HG (L' := [(0, .inl (.ref q0)), (1, .inl (.int a1)), (2, .inl (.int (v1_2 + (1 : Int32))))]) rfl rfl ⟨rfl, rfl, rfl, trivial⟩ ?_
          exact ih1 _
        · show G m1 _ (20, [(0, .inl (.ref q0)), (1, .inl (.int a1)), (2, .inl (.int v1_2))], [], h, 0, 0)
          refine k_steps HG 1 (zB_iff.mpr (?_ : G m1 _ (21, [(0, .inl (.ref q0)), (1, .inl (.int a1)), (2, .inl (.int v1_2))], [.inl (.int v1_2)], h, 0, 0)))
          exact k_reti HG rfl rfl (fun e1 e2 => hR _ e1 e2)
  refine k_ext HG (L' := [(0, .inl (.ref q0)), (1, .inl (.int a1)), (2, .inl (.int (0 : Int32)))]) rfl rfl ⟨rfl, rfl, rfl, trivial⟩ ?_
  exact lp1 m (Nat.le_refl _) _
