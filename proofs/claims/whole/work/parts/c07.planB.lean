def W_X5_planOfB : List (Nat × Nat) := [(5, 35), (5, 36), (5, 37), (5, 38), (5, 39), (42, 1000)]
def P_X5_planOfB : List (Nat × Nat) := [(5, 36), (5, 37), (5, 38), (5, 39), (42, 1000)]
noncomputable def F_X5_planOfB (D : Nat) (h : zH) (q0 : Nat) (a1 : Int32) : Int32 × zH := (letf (F_X5_beginValuesB h q0 a1 (61 : Int32)) (fun h1 => (letf (F_X5_standing h1 q0) (fun y2 => (letf (F_X5_valueAt (D - 1) h1 q0 y2 (0 : Int32)) (fun y3 => ((Int64.toInt32 y3.1), y3.2)))))))
theorem x_X5_planOfB {scr : List zV} {D : Nat} {T : List Nat} {h : zH} {q0 : Nat} {a1 : Int32} (hsc : cT scr) (K : hOK kty T h) (hq_q0 : T[q0]? = some 5) (V_35 : hget h q0 35 = some (.inl .null)) (hh : cH h) (hlen : T.length ≤ 900000) : xIHd scr W_X5_planOfB T (T ++ vTys) (fun v => kN (T ++ vTys) v.2 q0 35 41) D 209 [.inl (.ref q0), .inl (.int a1)] h (F_X5_planOfB D h q0 a1) := by
  cases D with
  | zero => exact fun _ _ hx => absurd hx (fun q => xD_zero q)
  | succ D =>
    refine xIHd_intro (E := ze_X5_planOf) hsc rfl (cTb_ok rfl) hh (fun r h' G HG Pf hR m => ?_)
    have K := kOK_refl (W := P_X5_planOfB) K
    unfold F_X5_planOfB
    show G m _ (0, [(0, .inl (.ref q0)), (1, .inl (.int a1))], [], h, 0, 0)
    refine k_steps HG 3 (zB_iff.mpr (?_ : G m _ (4, [(0, .inl (.ref q0)), (1, .inl (.int a1))], [.inl (.int (61 : Int32)), .inl (.int a1), .inl (.ref q0)], h, 0, 0)))
    refine k_cVHd HG (E' := ze_X5_beginValues) (Or.inl ⟨rfl, rfl⟩) hsc rfl rfl rfl (kOK_wk (W := W_X5_planOfB) rfl K) rfl (fun hh => x_X5_beginValuesB hsc K.1 hq_q0 (kNul_of V_35 K hq_q0 rfl) hh hlen) (fun h1 K1 Q1 => ?_)
    have A1 := K1
    have K1 := kOK_refl (W := P_X5_planOfB) K1.1
    show G m _ (7, [(0, .inl (.ref q0)), (1, .inl (.int a1))], [], h1, (0 + zEc ze_X5_beginValues), (0 + zEs ze_X5_beginValues))
    refine k_steps HG 2 (zB_iff.mpr (?_ : G m _ (9, [(0, .inl (.ref q0)), (1, .inl (.int a1))], [.inl (.ref q0), .inl (.ref q0)], h1, (0 + zEc ze_X5_beginValues), (0 + zEs ze_X5_beginValues))))
    refine k_cVI HG (E' := ze_X5_standing) (Or.inl ⟨rfl, rfl⟩) hsc rfl rfl rfl rfl rfl (fun hh => x_X5_standing hsc K1.1 (tExt_app _ _ _ _ hq_q0) hh) (fun y2 => (?_ : G m _ (12, [(0, .inl (.ref q0)), (1, .inl (.int a1))], [.inl (.int y2), .inl (.ref q0)], h1, (0 + zEc ze_X5_beginValues), (0 + zEs ze_X5_beginValues))))
    refine k_steps HG 1 (zB_iff.mpr (?_ : G m _ (13, [(0, .inl (.ref q0)), (1, .inl (.int a1))], [.inl (.int (0 : Int32)), .inl (.int y2), .inl (.ref q0)], h1, (0 + zEc ze_X5_beginValues), (0 + zEs ze_X5_beginValues))))
    refine k_cVJHd HG (E' := ze_X5_valueAt) (Or.inl ⟨rfl, rfl⟩) hsc rfl rfl rfl K1 rfl (fun hh => x_X5_valueAt hsc K1.1 (tExt_app _ _ _ _ hq_q0) (kN_of Q1 K1 (tExt_app _ _ _ _ hq_q0) rfl) hh) (fun y3 K3 Q3 => (?_ : G m _ (16, [(0, .inl (.ref q0)), (1, .inl (.int a1))], [.inl (.long y3.1)], y3.2, (0 + zEc ze_X5_beginValues), (0 + zEs ze_X5_beginValues))))
    refine k_steps HG 1 (zB_iff.mpr (?_ : G m _ (17, [(0, .inl (.ref q0)), (1, .inl (.int a1))], [.inl (.int (Int64.toInt32 y3.1))], y3.2, (0 + zEc ze_X5_beginValues), (0 + zEs ze_X5_beginValues))))
    exact k_reti HG rfl rfl (fun e1 e2 => hR _ _ e1 e2 (kOK_trans A1 rfl K3) (kN_of Q1 K3 (tExt_app _ _ _ _ hq_q0) rfl))
def W_X5_meanOfB : List (Nat × Nat) := [(5, 35), (5, 36), (5, 37), (5, 38), (5, 39), (42, 1000)]
def P_X5_meanOfB : List (Nat × Nat) := [(5, 36), (5, 37), (5, 38), (5, 39), (42, 1000)]
noncomputable def F_X5_meanOfB (D : Nat) (h : zH) (q0 : Nat) (a1 : Int32) (a2 : Int32) : Int64 × zH := (letf (F_X5_beginValuesB h q0 a1 a2) (fun h1 => (letf (F_X5_standing h1 q0) (fun y2 => (letf (F_X5_valueAt (D - 1) h1 q0 y2 (0 : Int32)) (fun y3 => (y3.1, y3.2)))))))
theorem x_X5_meanOfB {scr : List zV} {D : Nat} {T : List Nat} {h : zH} {q0 : Nat} {a1 : Int32} {a2 : Int32} (hsc : cT scr) (K : hOK kty T h) (hq_q0 : T[q0]? = some 5) (V_35 : hget h q0 35 = some (.inl .null)) (hh : cH h) (hlen : T.length ≤ 900000) : xJHd scr W_X5_meanOfB T (T ++ vTys) (fun _ => True) D 200 [.inl (.ref q0), .inl (.int a1), .inl (.int a2)] h (F_X5_meanOfB D h q0 a1 a2) := by
  cases D with
  | zero => exact fun _ _ hx => absurd hx (fun q => xD_zero q)
  | succ D =>
    refine xJHd_intro (E := ze_X5_meanOf) hsc rfl (cTb_ok rfl) hh (fun r h' G HG Pf hR m => ?_)
    have K := kOK_refl (W := P_X5_meanOfB) K
    unfold F_X5_meanOfB
    show G m _ (0, [(0, .inl (.ref q0)), (1, .inl (.int a1)), (2, .inl (.int a2))], [], h, 0, 0)
    refine k_steps HG 3 (zB_iff.mpr (?_ : G m _ (3, [(0, .inl (.ref q0)), (1, .inl (.int a1)), (2, .inl (.int a2))], [.inl (.int a2), .inl (.int a1), .inl (.ref q0)], h, 0, 0)))
    refine k_cVHd HG (E' := ze_X5_beginValues) (Or.inl ⟨rfl, rfl⟩) hsc rfl rfl rfl (kOK_wk (W := W_X5_meanOfB) rfl K) rfl (fun hh => x_X5_beginValuesB hsc K.1 hq_q0 (kNul_of V_35 K hq_q0 rfl) hh hlen) (fun h1 K1 Q1 => ?_)
    have A1 := K1
    have K1 := kOK_refl (W := P_X5_meanOfB) K1.1
    show G m _ (6, [(0, .inl (.ref q0)), (1, .inl (.int a1)), (2, .inl (.int a2))], [], h1, (0 + zEc ze_X5_beginValues), (0 + zEs ze_X5_beginValues))
    refine k_steps HG 2 (zB_iff.mpr (?_ : G m _ (8, [(0, .inl (.ref q0)), (1, .inl (.int a1)), (2, .inl (.int a2))], [.inl (.ref q0), .inl (.ref q0)], h1, (0 + zEc ze_X5_beginValues), (0 + zEs ze_X5_beginValues))))
    refine k_cVI HG (E' := ze_X5_standing) (Or.inl ⟨rfl, rfl⟩) hsc rfl rfl rfl rfl rfl (fun hh => x_X5_standing hsc K1.1 (tExt_app _ _ _ _ hq_q0) hh) (fun y2 => (?_ : G m _ (11, [(0, .inl (.ref q0)), (1, .inl (.int a1)), (2, .inl (.int a2))], [.inl (.int y2), .inl (.ref q0)], h1, (0 + zEc ze_X5_beginValues), (0 + zEs ze_X5_beginValues))))
    refine k_steps HG 1 (zB_iff.mpr (?_ : G m _ (12, [(0, .inl (.ref q0)), (1, .inl (.int a1)), (2, .inl (.int a2))], [.inl (.int (0 : Int32)), .inl (.int y2), .inl (.ref q0)], h1, (0 + zEc ze_X5_beginValues), (0 + zEs ze_X5_beginValues))))
    refine k_cVJHd HG (E' := ze_X5_valueAt) (Or.inl ⟨rfl, rfl⟩) hsc rfl rfl rfl K1 rfl (fun hh => x_X5_valueAt hsc K1.1 (tExt_app _ _ _ _ hq_q0) (kN_of Q1 K1 (tExt_app _ _ _ _ hq_q0) rfl) hh) (fun y3 K3 Q3 => (?_ : G m _ (15, [(0, .inl (.ref q0)), (1, .inl (.int a1)), (2, .inl (.int a2))], [.inl (.long y3.1)], y3.2, (0 + zEc ze_X5_beginValues), (0 + zEs ze_X5_beginValues))))
    exact k_retl HG rfl rfl (fun e1 e2 => hR _ _ e1 e2 (kOK_trans A1 rfl K3) trivial)
def W_X5_planB : List (Nat × Nat) := [(5, 35), (5, 36), (5, 37), (5, 38), (5, 39), (30, 1000), (42, 1000)]
def P_X5_planB : List (Nat × Nat) := [(5, 36), (5, 37), (5, 38), (5, 39), (30, 1000), (42, 1000)]
noncomputable def F_X5_planB (D : Nat) (h : zH) (q0 : Nat) (a1 : Int32) : Int32 × zH := (letf (F_X5_isBuyer h q0 a1) (fun y1 => (if y1 = (0 : Int32) then (letf (F_X5_refuse h q0 (-2 : Int32)) (fun y2 => (y2.1, y2.2))) else (letf (F_X5_planOfB (D - 1) h q0 a1) (fun y3 => (y3.1, y3.2))))))
theorem x_X5_planB {scr : List zV} {D : Nat} {T : List Nat} {h : zH} {q0 : Nat} {a1 : Int32} (hsc : cT scr) (K : hOK kty T h) (hq_q0 : T[q0]? = some 5) (V_35 : hget h q0 35 = some (.inl .null)) (hh : cH h) (hlen : T.length ≤ 900000) : xIHe scr W_X5_planB T  D 208 [.inl (.ref q0), .inl (.int a1)] h (F_X5_planB D h q0 a1) := by
  cases D with
  | zero => exact fun _ _ hx => absurd hx (fun q => xD_zero q)
  | succ D =>
    refine xIHe_intro (E := ze_X5_plan) hsc rfl (cTb_ok rfl) hh (fun r h' G HG Pf hR m => ?_)
    have K := kOK_refl (W := P_X5_planB) K
    unfold F_X5_planB
    show G m _ (0, [(0, .inl (.ref q0)), (1, .inl (.int a1))], [], h, 0, 0)
    refine k_steps HG 2 (zB_iff.mpr (?_ : G m _ (2, [(0, .inl (.ref q0)), (1, .inl (.int a1))], [.inl (.int a1), .inl (.ref q0)], h, 0, 0)))
    refine k_cVI HG (E' := ze_X5_isBuyer) (Or.inl ⟨rfl, rfl⟩) hsc rfl rfl rfl rfl rfl (fun hh => x_X5_isBuyer hsc K.1 hq_q0 hh) (fun y1 => (?_ : G m _ (5, [(0, .inl (.ref q0)), (1, .inl (.int a1))], [.inl (.int y1)], h, 0, 0)))
    refine k_steps HG 1 (kb_eq (x := y1) (y := (0 : Int32)) ?_ ?_)
    · show G m _ (16, [(0, .inl (.ref q0)), (1, .inl (.int a1))], [], h, 0, 0)
      refine k_steps HG 2 (zB_iff.mpr (?_ : G m _ (19, [(0, .inl (.ref q0)), (1, .inl (.int a1))], [.inl (.int (-2 : Int32)), .inl (.ref q0)], h, 0, 0)))
      refine k_cVIH HG (E' := ze_X5_refuse) (Or.inl ⟨rfl, rfl⟩) hsc rfl rfl rfl rfl rfl K rfl (fun hh => x_X5_refuse hsc K.1 hq_q0 hh) (fun y2 K2 => (?_ : G m _ (22, [(0, .inl (.ref q0)), (1, .inl (.int a1))], [.inl (.int y2.1)], y2.2, 0, 0)))
      exact k_reti HG rfl rfl (fun e1 e2 => hR _ _ _ e1 e2 (kOK_wk rfl K2))
    · show G m _ (8, [(0, .inl (.ref q0)), (1, .inl (.int a1))], [], h, 0, 0)
      refine k_steps HG 2 (zB_iff.mpr (?_ : G m _ (10, [(0, .inl (.ref q0)), (1, .inl (.int a1))], [.inl (.int a1), .inl (.ref q0)], h, 0, 0)))
      refine k_cVIHd HG (E' := ze_X5_planOf) (Or.inl ⟨rfl, rfl⟩) hsc rfl rfl rfl (kOK_wk (W := W_X5_planB) rfl K) rfl (fun hh => x_X5_planOfB hsc K.1 hq_q0 (kNul_of V_35 K hq_q0 rfl) hh hlen) (fun y3 K3 Q3 => ?_)
      have A3 := K3
      have K3 := kOK_refl (W := P_X5_planB) K3.1
      show G m _ (13, [(0, .inl (.ref q0)), (1, .inl (.int a1))], [.inl (.int y3.1)], y3.2, (0 + zEc ze_X5_planOf), (0 + zEs ze_X5_planOf))
      refine k_steps HG 1 (zB_iff.mpr (?_ : G m _ (22, [(0, .inl (.ref q0)), (1, .inl (.int a1))], [.inl (.int y3.1)], y3.2, (0 + zEc ze_X5_planOf), (0 + zEs ze_X5_planOf))))
      exact k_reti HG rfl rfl (fun e1 e2 => hR _ _ _ e1 e2 (kOK_trans A3 rfl K3))
def W_X5_tillB : List (Nat × Nat) := [(5, 35), (5, 36), (5, 37), (5, 38), (5, 39), (30, 1000), (42, 1000)]
def P_X5_tillB : List (Nat × Nat) := [(5, 36), (5, 37), (5, 38), (5, 39), (30, 1000), (42, 1000)]
noncomputable def B_X5_tillB_29 (D : Nat) (c0 : Nat) (c1 : Int32) (c2 : Int32) (s : (Int32 × zH)) : (Int32 × zH) ⊕ (Int32 × zH) := (letf (F_X5_bits c2) (fun y1001 => (if ((hv s.2 c0 38) - y1001) < s.1 then (Sum.inr ((60 : Int32), s.2)) else (letf (F_X5_valueAt (D - 1) s.2 c0 c2 s.1) (fun y1002 => (if y1002.1 = (0 : Int64) then (Sum.inr (s.1, y1002.2)) else (Sum.inl ((s.1 + (1 : Int32)), y1002.2))))))))
noncomputable def F_X5_tillB (D : Nat) (h : zH) (q0 : Nat) (a1 : Int32) : Int32 × zH := (letf (F_X5_isBuyer h q0 a1) (fun y1 => (if y1 = (0 : Int32) then (letf (F_X5_refuse h q0 (-2 : Int32)) (fun y7 => (y7.1, y7.2))) else (letf (F_X5_beginValuesB h q0 a1 (61 : Int32)) (fun h2 => (letf (F_X5_standing h2 q0) (fun y3 => (fx (B_X5_tillB_29 D q0 a1 y3) (0, []) ((0 : Int32), h2)))))))))
theorem x_X5_tillB {scr : List zV} {D : Nat} {T : List Nat} {h : zH} {q0 : Nat} {a1 : Int32} (hsc : cT scr) (K : hOK kty T h) (hq_q0 : T[q0]? = some 5) (V_35 : hget h q0 35 = some (.inl .null)) (hh : cH h) (hlen : T.length ≤ 900000) : xIHe scr W_X5_tillB T  D 240 [.inl (.ref q0), .inl (.int a1)] h (F_X5_tillB D h q0 a1) := by
  cases D with
  | zero => exact fun _ _ hx => absurd hx (fun q => xD_zero q)
  | succ D =>
    refine xIHe_intro (E := ze_X5_till) hsc rfl (cTb_ok rfl) hh (fun r h' G HG Pf hR m => ?_)
    have K := kOK_refl (W := P_X5_tillB) K
    unfold F_X5_tillB
    show G m _ (0, [(0, .inl (.ref q0)), (1, .inl (.int a1))], [], h, 0, 0)
    refine k_steps HG 2 (zB_iff.mpr (?_ : G m _ (2, [(0, .inl (.ref q0)), (1, .inl (.int a1))], [.inl (.int a1), .inl (.ref q0)], h, 0, 0)))
    refine k_cVI HG (E' := ze_X5_isBuyer) (Or.inl ⟨rfl, rfl⟩) hsc rfl rfl rfl rfl rfl (fun hh => x_X5_isBuyer hsc K.1 hq_q0 hh) (fun y1 => (?_ : G m _ (5, [(0, .inl (.ref q0)), (1, .inl (.int a1))], [.inl (.int y1)], h, 0, 0)))
    refine k_steps HG 1 (kb_ne (x := y1) (y := (0 : Int32)) ?_ ?_)
    · show G m _ (15, [(0, .inl (.ref q0)), (1, .inl (.int a1))], [], h, 0, 0)
      refine k_steps HG 3 (zB_iff.mpr (?_ : G m _ (19, [(0, .inl (.ref q0)), (1, .inl (.int a1))], [.inl (.int (61 : Int32)), .inl (.int a1), .inl (.ref q0)], h, 0, 0)))
      refine k_cVHd HG (E' := ze_X5_beginValues) (Or.inl ⟨rfl, rfl⟩) hsc rfl rfl rfl (kOK_wk (W := W_X5_tillB) rfl K) rfl (fun hh => x_X5_beginValuesB hsc K.1 hq_q0 (kNul_of V_35 K hq_q0 rfl) hh hlen) (fun h2 K2 Q2 => ?_)
      have A2 := K2
      have K2 := kOK_refl (W := P_X5_tillB) K2.1
      show G m _ (22, [(0, .inl (.ref q0)), (1, .inl (.int a1))], [], h2, (0 + zEc ze_X5_beginValues), (0 + zEs ze_X5_beginValues))
      refine k_steps HG 1 (zB_iff.mpr (?_ : G m _ (23, [(0, .inl (.ref q0)), (1, .inl (.int a1))], [.inl (.ref q0)], h2, (0 + zEc ze_X5_beginValues), (0 + zEs ze_X5_beginValues))))
      refine k_cVI HG (E' := ze_X5_standing) (Or.inl ⟨rfl, rfl⟩) hsc rfl rfl rfl rfl rfl (fun hh => x_X5_standing hsc K2.1 (tExt_app _ _ _ _ hq_q0) hh) (fun y3 => (?_ : G m _ (26, [(0, .inl (.ref q0)), (1, .inl (.int a1))], [.inl (.int y3)], h2, (0 + zEc ze_X5_beginValues), (0 + zEs ze_X5_beginValues))))
      refine k_steps HG 3 (zB_iff.mpr (?_ : G m _ (29, [(3, .inl (.int (0 : Int32))), (2, .inl (.int y3)), (0, .inl (.ref q0)), (1, .inl (.int a1))], [], h2, (0 + zEc ze_X5_beginValues), (0 + zEs ze_X5_beginValues))))
      have lp4 : ∀ m4, m4 ≤ m → ∀ (nc4 : Nat) (ns4 : Nat) (v4_3 : Int32) (h4 : zH), kOK P_X5_tillB (T ++ vTys) (T ++ vTys) h2 h4 → G m4 (Pf (fx (B_X5_tillB_29 (D + 1) q0 a1 y3) (0, []) (v4_3, h4))) (29, [(0, .inl (.ref q0)), (1, .inl (.int a1)), (2, .inl (.int y3)), (3, .inl (.int v4_3))], [], h4, nc4, ns4) := by
        intro m4
        induction m4 with
        | zero =>
          intros
          exact k_zero HG
        | succ m4 ih4 =>
          intro le4 nc4 ns4 v4_3 h4 K4
          have le4 := Nat.le_of_succ_le le4
          have ih4 := ih4 le4
          refine k_fx ?_
          rw [B_X5_tillB_29]
          refine k_first HG 1 (zB_iff.mpr (?_ : G m4 _ (31, [(0, .inl (.ref q0)), (1, .inl (.int a1)), (2, .inl (.int y3)), (3, .inl (.int v4_3))], [.inl (.ref q0), .inl (.int v4_3)], h4, nc4, ns4)))
          refine k_getI HG rfl K4 (tExt_app _ _ _ _ hq_q0) rfl (Nat.le_of_ble_eq_true rfl) rfl (?_ : G m4 _ (34, [(0, .inl (.ref q0)), (1, .inl (.int a1)), (2, .inl (.int y3)), (3, .inl (.int v4_3))], [.inl (.int (hv h4 q0 38)), .inl (.int v4_3)], h4, nc4, ns4))
          refine k_steps HG 1 (zB_iff.mpr (?_ : G m4 _ (35, [(0, .inl (.ref q0)), (1, .inl (.int a1)), (2, .inl (.int y3)), (3, .inl (.int v4_3))], [.inl (.int y3), .inl (.int (hv h4 q0 38)), .inl (.int v4_3)], h4, nc4, ns4)))
          refine k_cSI HG (E' := ze_X5_bits) (Or.inl rfl) hsc rfl rfl rfl rfl (fun hh => x_X5_bits hsc hh) (fun y5 => (?_ : G m4 _ (38, [(0, .inl (.ref q0)), (1, .inl (.int a1)), (2, .inl (.int y3)), (3, .inl (.int v4_3))], [.inl (.int y5), .inl (.int (hv h4 q0 38)), .inl (.int v4_3)], h4, nc4, ns4)))
          refine k_steps HG 2 (kb_gt (x := v4_3) (y := ((hv h4 q0 38) - y5)) ?_ ?_)
          · show G m4 _ (61, [(0, .inl (.ref q0)), (1, .inl (.int a1)), (2, .inl (.int y3)), (3, .inl (.int v4_3))], [], h4, nc4, ns4)
            refine k_steps HG 1 (zB_iff.mpr (?_ : G m4 _ (63, [(0, .inl (.ref q0)), (1, .inl (.int a1)), (2, .inl (.int y3)), (3, .inl (.int v4_3))], [.inl (.int (60 : Int32))], h4, nc4, ns4)))
            exact k_reti HG rfl rfl (fun e1 e2 => hR _ _ _ e1 e2 (kOK_trans A2 rfl K4))
          · show G m4 _ (42, [(0, .inl (.ref q0)), (1, .inl (.int a1)), (2, .inl (.int y3)), (3, .inl (.int v4_3))], [], h4, nc4, ns4)
            refine k_steps HG 3 (zB_iff.mpr (?_ : G m4 _ (45, [(0, .inl (.ref q0)), (1, .inl (.int a1)), (2, .inl (.int y3)), (3, .inl (.int v4_3))], [.inl (.int v4_3), .inl (.int y3), .inl (.ref q0)], h4, nc4, ns4)))
            refine k_cVJHd HG (E' := ze_X5_valueAt) (Or.inl ⟨rfl, rfl⟩) hsc rfl rfl rfl K4 rfl (fun hh => x_X5_valueAt hsc K4.1 (tExt_app _ _ _ _ hq_q0) (kN_of Q2 K4 (tExt_app _ _ _ _ hq_q0) rfl) hh) (fun y6 K6 Q6 => (?_ : G m4 _ (48, [(0, .inl (.ref q0)), (1, .inl (.int a1)), (2, .inl (.int y3)), (3, .inl (.int v4_3))], [.inl (.long y6.1)], y6.2, nc4, ns4)))
            refine k_steps HG 3 (t_and2 (zisI_lcmp y6.1 (0 : Int64)) (kl_ne (x := y6.1) (y := (0 : Int64)) ?_ ?_))
            · show G m4 _ (55, [(0, .inl (.ref q0)), (1, .inl (.int a1)), (2, .inl (.int y3)), (3, .inl (.int v4_3))], [], y6.2, nc4, ns4)
              refine k_steps HG 2 (zB_iff.mpr (?_ : G m4 _ (29, [(3, .inl (.int (v4_3 + (1 : Int32)))), (0, .inl (.ref q0)), (1, .inl (.int a1)), (2, .inl (.int y3))], [], y6.2, nc4, ns4)))
              refine k_ext HG (L' := [(0, .inl (.ref q0)), (1, .inl (.int a1)), (2, .inl (.int y3)), (3, .inl (.int (v4_3 + (1 : Int32))))]) rfl rfl ⟨rfl, rfl, rfl, rfl, trivial⟩ ?_
              exact ih4 _ _ _ _ K6
            · show G m4 _ (53, [(0, .inl (.ref q0)), (1, .inl (.int a1)), (2, .inl (.int y3)), (3, .inl (.int v4_3))], [], y6.2, nc4, ns4)
              refine k_steps HG 1 (zB_iff.mpr (?_ : G m4 _ (54, [(0, .inl (.ref q0)), (1, .inl (.int a1)), (2, .inl (.int y3)), (3, .inl (.int v4_3))], [.inl (.int v4_3)], y6.2, nc4, ns4)))
              exact k_reti HG rfl rfl (fun e1 e2 => hR _ _ _ e1 e2 (kOK_trans A2 rfl K6))
      refine k_ext HG (L' := [(0, .inl (.ref q0)), (1, .inl (.int a1)), (2, .inl (.int y3)), (3, .inl (.int (0 : Int32)))]) rfl rfl ⟨rfl, rfl, rfl, rfl, trivial⟩ ?_
      exact lp4 m (Nat.le_refl _) _ _ _ _ K2
    · show G m _ (8, [(0, .inl (.ref q0)), (1, .inl (.int a1))], [], h, 0, 0)
      refine k_steps HG 2 (zB_iff.mpr (?_ : G m _ (11, [(0, .inl (.ref q0)), (1, .inl (.int a1))], [.inl (.int (-2 : Int32)), .inl (.ref q0)], h, 0, 0)))
      refine k_cVIH HG (E' := ze_X5_refuse) (Or.inl ⟨rfl, rfl⟩) hsc rfl rfl rfl rfl rfl K rfl (fun hh => x_X5_refuse hsc K.1 hq_q0 hh) (fun y7 K7 => (?_ : G m _ (14, [(0, .inl (.ref q0)), (1, .inl (.int a1))], [.inl (.int y7.1)], y7.2, 0, 0)))
      exact k_reti HG rfl rfl (fun e1 e2 => hR _ _ _ e1 e2 (kOK_wk rfl K7))
def W_X5_meanB : List (Nat × Nat) := [(5, 35), (5, 36), (5, 37), (5, 38), (5, 39), (30, 1000), (42, 1000)]
def P_X5_meanB : List (Nat × Nat) := [(5, 36), (5, 37), (5, 38), (5, 39), (30, 1000), (42, 1000)]
noncomputable def F_X5_meanB (D : Nat) (h : zH) (q0 : Nat) (a1 : Int32) (a2 : Int32) : Int32 × zH := (letf (F_X5_isBuyer h q0 a1) (fun y1 => (if y1 = (0 : Int32) then (letf (F_X5_refuse h q0 (-2 : Int32)) (fun y2 => (y2.1, y2.2))) else (letf (F_X5_in (Int32.toInt64 a2) (0 : Int64) (8 : Int64)) (fun y3 => (if y3 = (0 : Int32) then (letf (F_X5_refuse h q0 (-2 : Int32)) (fun y4 => (y4.1, y4.2))) else (letf (F_X5_meanOfB (D - 1) h q0 a1 a2) (fun y5 => ((Int64.toInt32 y5.1), y5.2)))))))))
theorem x_X5_meanB {scr : List zV} {D : Nat} {T : List Nat} {h : zH} {q0 : Nat} {a1 : Int32} {a2 : Int32} (hsc : cT scr) (K : hOK kty T h) (hq_q0 : T[q0]? = some 5) (V_35 : hget h q0 35 = some (.inl .null)) (hh : cH h) (hlen : T.length ≤ 900000) : xIHe scr W_X5_meanB T  D 199 [.inl (.ref q0), .inl (.int a1), .inl (.int a2)] h (F_X5_meanB D h q0 a1 a2) := by
  cases D with
  | zero => exact fun _ _ hx => absurd hx (fun q => xD_zero q)
  | succ D =>
    refine xIHe_intro (E := ze_X5_mean) hsc rfl (cTb_ok rfl) hh (fun r h' G HG Pf hR m => ?_)
    have K := kOK_refl (W := P_X5_meanB) K
    unfold F_X5_meanB
    show G m _ (0, [(0, .inl (.ref q0)), (1, .inl (.int a1)), (2, .inl (.int a2))], [], h, 0, 0)
    refine k_steps HG 2 (zB_iff.mpr (?_ : G m _ (2, [(0, .inl (.ref q0)), (1, .inl (.int a1)), (2, .inl (.int a2))], [.inl (.int a1), .inl (.ref q0)], h, 0, 0)))
    refine k_cVI HG (E' := ze_X5_isBuyer) (Or.inl ⟨rfl, rfl⟩) hsc rfl rfl rfl rfl rfl (fun hh => x_X5_isBuyer hsc K.1 hq_q0 hh) (fun y1 => (?_ : G m _ (5, [(0, .inl (.ref q0)), (1, .inl (.int a1)), (2, .inl (.int a2))], [.inl (.int y1)], h, 0, 0)))
    refine k_steps HG 1 (kb_eq (x := y1) (y := (0 : Int32)) ?_ ?_)
    · show G m _ (30, [(0, .inl (.ref q0)), (1, .inl (.int a1)), (2, .inl (.int a2))], [], h, 0, 0)
      refine k_steps HG 2 (zB_iff.mpr (?_ : G m _ (33, [(0, .inl (.ref q0)), (1, .inl (.int a1)), (2, .inl (.int a2))], [.inl (.int (-2 : Int32)), .inl (.ref q0)], h, 0, 0)))
      refine k_cVIH HG (E' := ze_X5_refuse) (Or.inl ⟨rfl, rfl⟩) hsc rfl rfl rfl rfl rfl K rfl (fun hh => x_X5_refuse hsc K.1 hq_q0 hh) (fun y2 K2 => (?_ : G m _ (36, [(0, .inl (.ref q0)), (1, .inl (.int a1)), (2, .inl (.int a2))], [.inl (.int y2.1)], y2.2, 0, 0)))
      exact k_reti HG rfl rfl (fun e1 e2 => hR _ _ _ e1 e2 (kOK_wk rfl K2))
    · show G m _ (8, [(0, .inl (.ref q0)), (1, .inl (.int a1)), (2, .inl (.int a2))], [], h, 0, 0)
      refine k_steps HG 4 (zB_iff.mpr (?_ : G m _ (14, [(0, .inl (.ref q0)), (1, .inl (.int a1)), (2, .inl (.int a2))], [.inl (.long (8 : Int64)), .inl (.long (0 : Int64)), .inl (.long (Int32.toInt64 a2))], h, 0, 0)))
      refine k_cSI HG (E' := ze_X5_in) (Or.inl rfl) hsc rfl rfl rfl rfl (fun hh => x_X5_in hsc hh) (fun y3 => (?_ : G m _ (17, [(0, .inl (.ref q0)), (1, .inl (.int a1)), (2, .inl (.int a2))], [.inl (.int y3)], h, 0, 0)))
      refine k_steps HG 1 (kb_eq (x := y3) (y := (0 : Int32)) ?_ ?_)
      · show G m _ (30, [(0, .inl (.ref q0)), (1, .inl (.int a1)), (2, .inl (.int a2))], [], h, 0, 0)
        refine k_steps HG 2 (zB_iff.mpr (?_ : G m _ (33, [(0, .inl (.ref q0)), (1, .inl (.int a1)), (2, .inl (.int a2))], [.inl (.int (-2 : Int32)), .inl (.ref q0)], h, 0, 0)))
        refine k_cVIH HG (E' := ze_X5_refuse) (Or.inl ⟨rfl, rfl⟩) hsc rfl rfl rfl rfl rfl K rfl (fun hh => x_X5_refuse hsc K.1 hq_q0 hh) (fun y4 K4 => (?_ : G m _ (36, [(0, .inl (.ref q0)), (1, .inl (.int a1)), (2, .inl (.int a2))], [.inl (.int y4.1)], y4.2, 0, 0)))
        exact k_reti HG rfl rfl (fun e1 e2 => hR _ _ _ e1 e2 (kOK_wk rfl K4))
      · show G m _ (20, [(0, .inl (.ref q0)), (1, .inl (.int a1)), (2, .inl (.int a2))], [], h, 0, 0)
        refine k_steps HG 3 (zB_iff.mpr (?_ : G m _ (23, [(0, .inl (.ref q0)), (1, .inl (.int a1)), (2, .inl (.int a2))], [.inl (.int a2), .inl (.int a1), .inl (.ref q0)], h, 0, 0)))
        refine k_cVJHd HG (E' := ze_X5_meanOf) (Or.inl ⟨rfl, rfl⟩) hsc rfl rfl rfl (kOK_wk (W := W_X5_meanB) rfl K) rfl (fun hh => x_X5_meanOfB hsc K.1 hq_q0 (kNul_of V_35 K hq_q0 rfl) hh hlen) (fun y5 K5 Q5 => ?_)
        have A5 := K5
        have K5 := kOK_refl (W := P_X5_meanB) K5.1
        show G m _ (26, [(0, .inl (.ref q0)), (1, .inl (.int a1)), (2, .inl (.int a2))], [.inl (.long y5.1)], y5.2, (0 + zEc ze_X5_meanOf), (0 + zEs ze_X5_meanOf))
        refine k_steps HG 2 (zB_iff.mpr (?_ : G m _ (36, [(0, .inl (.ref q0)), (1, .inl (.int a1)), (2, .inl (.int a2))], [.inl (.int (Int64.toInt32 y5.1))], y5.2, (0 + zEc ze_X5_meanOf), (0 + zEs ze_X5_meanOf))))
        exact k_reti HG rfl rfl (fun e1 e2 => hR _ _ _ e1 e2 (kOK_trans A5 rfl K5))
def W_X5_atOnceB : List (Nat × Nat) := [(5, 35), (5, 36), (5, 37), (5, 38), (5, 39), (30, 1000), (42, 1000)]
def P_X5_atOnceB : List (Nat × Nat) := [(5, 36), (5, 37), (5, 38), (5, 39), (30, 1000), (42, 1000)]
noncomputable def F_X5_atOnceB (D : Nat) (h : zH) (q0 : Nat) (a1 : Int32) : Int32 × zH := (letf (F_X5_isBuyer h q0 a1) (fun y1 => (if y1 = (0 : Int32) then (letf (F_X5_refuse h q0 (-2 : Int32)) (fun y3 => (((-10000000 : Int32) + y3.1), y3.2))) else (letf (F_X5_meanOfB (D - 1) h q0 a1 (5 : Int32)) (fun y2 => ((Int64.toInt32 (y2.1 - ((1000 : Int64) * (Int32.toInt64 (hv y2.2 q0 12))))), y2.2))))))
theorem x_X5_atOnceB {scr : List zV} {D : Nat} {T : List Nat} {h : zH} {q0 : Nat} {a1 : Int32} (hsc : cT scr) (K : hOK kty T h) (hq_q0 : T[q0]? = some 5) (V_35 : hget h q0 35 = some (.inl .null)) (hh : cH h) (hlen : T.length ≤ 900000) : xIHe scr W_X5_atOnceB T  D 155 [.inl (.ref q0), .inl (.int a1)] h (F_X5_atOnceB D h q0 a1) := by
  cases D with
  | zero => exact fun _ _ hx => absurd hx (fun q => xD_zero q)
  | succ D =>
    refine xIHe_intro (E := ze_X5_atOnce) hsc rfl (cTb_ok rfl) hh (fun r h' G HG Pf hR m => ?_)
    have K := kOK_refl (W := P_X5_atOnceB) K
    unfold F_X5_atOnceB
    show G m _ (0, [(0, .inl (.ref q0)), (1, .inl (.int a1))], [], h, 0, 0)
    refine k_steps HG 2 (zB_iff.mpr (?_ : G m _ (2, [(0, .inl (.ref q0)), (1, .inl (.int a1))], [.inl (.int a1), .inl (.ref q0)], h, 0, 0)))
    refine k_cVI HG (E' := ze_X5_isBuyer) (Or.inl ⟨rfl, rfl⟩) hsc rfl rfl rfl rfl rfl (fun hh => x_X5_isBuyer hsc K.1 hq_q0 hh) (fun y1 => (?_ : G m _ (5, [(0, .inl (.ref q0)), (1, .inl (.int a1))], [.inl (.int y1)], h, 0, 0)))
    refine k_steps HG 1 (kb_ne (x := y1) (y := (0 : Int32)) ?_ ?_)
    · show G m _ (19, [(0, .inl (.ref q0)), (1, .inl (.int a1))], [], h, 0, 0)
      refine k_steps HG 3 (zB_iff.mpr (?_ : G m _ (22, [(0, .inl (.ref q0)), (1, .inl (.int a1))], [.inl (.int (5 : Int32)), .inl (.int a1), .inl (.ref q0)], h, 0, 0)))
      refine k_cVJHd HG (E' := ze_X5_meanOf) (Or.inl ⟨rfl, rfl⟩) hsc rfl rfl rfl (kOK_wk (W := W_X5_atOnceB) rfl K) rfl (fun hh => x_X5_meanOfB hsc K.1 hq_q0 (kNul_of V_35 K hq_q0 rfl) hh hlen) (fun y2 K2 Q2 => ?_)
      have A2 := K2
      have K2 := kOK_refl (W := P_X5_atOnceB) K2.1
      show G m _ (25, [(0, .inl (.ref q0)), (1, .inl (.int a1))], [.inl (.long y2.1)], y2.2, (0 + zEc ze_X5_meanOf), (0 + zEs ze_X5_meanOf))
      refine k_steps HG 2 (zB_iff.mpr (?_ : G m _ (29, [(0, .inl (.ref q0)), (1, .inl (.int a1))], [.inl (.ref q0), .inl (.long (1000 : Int64)), .inl (.long y2.1)], y2.2, (0 + zEc ze_X5_meanOf), (0 + zEs ze_X5_meanOf))))
      refine k_getI HG rfl K2 (tExt_app _ _ _ _ hq_q0) rfl (Nat.le_of_ble_eq_true rfl) rfl (?_ : G m _ (32, [(0, .inl (.ref q0)), (1, .inl (.int a1))], [.inl (.int (hv y2.2 q0 12)), .inl (.long (1000 : Int64)), .inl (.long y2.1)], y2.2, (0 + zEc ze_X5_meanOf), (0 + zEs ze_X5_meanOf)))
      refine k_steps HG 4 (zB_iff.mpr (?_ : G m _ (36, [(0, .inl (.ref q0)), (1, .inl (.int a1))], [.inl (.int (Int64.toInt32 (y2.1 - ((1000 : Int64) * (Int32.toInt64 (hv y2.2 q0 12))))))], y2.2, (0 + zEc ze_X5_meanOf), (0 + zEs ze_X5_meanOf))))
      exact k_reti HG rfl rfl (fun e1 e2 => hR _ _ _ e1 e2 (kOK_trans A2 rfl K2))
    · show G m _ (8, [(0, .inl (.ref q0)), (1, .inl (.int a1))], [], h, 0, 0)
      refine k_steps HG 3 (zB_iff.mpr (?_ : G m _ (14, [(0, .inl (.ref q0)), (1, .inl (.int a1))], [.inl (.int (-2 : Int32)), .inl (.ref q0), .inl (.int (-10000000 : Int32))], h, 0, 0)))
      refine k_cVIH HG (E' := ze_X5_refuse) (Or.inl ⟨rfl, rfl⟩) hsc rfl rfl rfl rfl rfl K rfl (fun hh => x_X5_refuse hsc K.1 hq_q0 hh) (fun y3 K3 => (?_ : G m _ (17, [(0, .inl (.ref q0)), (1, .inl (.int a1))], [.inl (.int y3.1), .inl (.int (-10000000 : Int32))], y3.2, 0, 0)))
      refine k_steps HG 1 (zB_iff.mpr (?_ : G m _ (18, [(0, .inl (.ref q0)), (1, .inl (.int a1))], [.inl (.int ((-10000000 : Int32) + y3.1))], y3.2, 0, 0)))
      exact k_reti HG rfl rfl (fun e1 e2 => hR _ _ _ e1 e2 (kOK_wk rfl K3))
def W_X5_playsB : List (Nat × Nat) := [(5, 13), (5, 14), (5, 15), (5, 35), (5, 36), (5, 37), (5, 38), (5, 39), (30, 1000), (31, 1000), (35, 1000), (36, 1000), (37, 1000), (42, 1000)]
def P_X5_playsB : List (Nat × Nat) := [(5, 13), (5, 14), (5, 15), (5, 36), (5, 37), (5, 38), (5, 39), (30, 1000), (31, 1000), (35, 1000), (36, 1000), (37, 1000), (42, 1000)]
noncomputable def B_X5_playsB_17 (D : Nat) (c0 : Nat) (c1 : Int32) (s : (Int32 × zH)) : (Int32 × zH) ⊕ (Int32 × zH) := (if (hv s.2 (hr s.2 c0 24) c1.toNatClampNeg) < (hv s.2 c0 11) then (Sum.inr (s.1, s.2)) else (letf (F_X5_planOfA (D - 1) s.2 c0 c1) (fun y1002 => (if (0 : Int32) < y1002.1 then (letf (F_X5_goesOne y1002.2 c0 c1) (fun y1003 => (Sum.inl ((s.1 + (1 : Int32)), y1003.2)))) else (Sum.inr (s.1, y1002.2))))))
noncomputable def F_X5_playsB (D : Nat) (h : zH) (q0 : Nat) (a1 : Int32) : Int32 × zH := (letf (F_X5_isBuyer h q0 a1) (fun y1 => (if y1 = (0 : Int32) then (letf (F_X5_refuse h q0 (-2 : Int32)) (fun y9 => (y9.1, y9.2))) else (if (hv h (hr h q0 24) a1.toNatClampNeg) < (hv h q0 11) then ((0 : Int32), h) else (letf (F_X5_planOfB (D - 1) h q0 a1) (fun y3 => (if (0 : Int32) < y3.1 then (letf (F_X5_goesOne y3.2 q0 a1) (fun y4 => (fx (B_X5_playsB_17 D q0 a1) (0, []) (((0 : Int32) + (1 : Int32)), y4.2)))) else ((0 : Int32), y3.2))))))))
theorem x_X5_playsB {scr : List zV} {D : Nat} {T : List Nat} {h : zH} {q0 : Nat} {a1 : Int32} (hsc : cT scr) (K : hOK kty T h) (hq_q0 : T[q0]? = some 5) (V_35 : hget h q0 35 = some (.inl .null)) (hh : cH h) (hlen : T.length ≤ 900000) : xIHe scr W_X5_playsB T  D 210 [.inl (.ref q0), .inl (.int a1)] h (F_X5_playsB D h q0 a1) := by
  cases D with
  | zero => exact fun _ _ hx => absurd hx (fun q => xD_zero q)
  | succ D =>
    refine xIHe_intro (E := ze_X5_plays) hsc rfl (cTb_ok rfl) hh (fun r h' G HG Pf hR m => ?_)
    have K := kOK_refl (W := P_X5_playsB) K
    unfold F_X5_playsB
    show G m _ (0, [(0, .inl (.ref q0)), (1, .inl (.int a1))], [], h, 0, 0)
    refine k_steps HG 2 (zB_iff.mpr (?_ : G m _ (2, [(0, .inl (.ref q0)), (1, .inl (.int a1))], [.inl (.int a1), .inl (.ref q0)], h, 0, 0)))
    refine k_cVI HG (E' := ze_X5_isBuyer) (Or.inl ⟨rfl, rfl⟩) hsc rfl rfl rfl rfl rfl (fun hh => x_X5_isBuyer hsc K.1 hq_q0 hh) (fun y1 => (?_ : G m _ (5, [(0, .inl (.ref q0)), (1, .inl (.int a1))], [.inl (.int y1)], h, 0, 0)))
    refine k_steps HG 1 (kb_ne (x := y1) (y := (0 : Int32)) ?_ ?_)
    · show G m _ (15, [(0, .inl (.ref q0)), (1, .inl (.int a1))], [], h, 0, 0)
      refine k_steps HG 3 (zB_iff.mpr (?_ : G m _ (18, [(2, .inl (.int (0 : Int32))), (0, .inl (.ref q0)), (1, .inl (.int a1))], [.inl (.ref q0)], h, 0, 0)))
      refine k_getR HG rfl K hq_q0 rfl (Nat.le_of_ble_eq_true rfl) rfl rfl (fun t2 => (?_ : G m _ (21, [(2, .inl (.int (0 : Int32))), (0, .inl (.ref q0)), (1, .inl (.int a1))], [.inl (.ref (hr h q0 24))], h, 0, 0)))
      refine k_steps HG 1 (zB_iff.mpr (?_ : G m _ (22, [(2, .inl (.int (0 : Int32))), (0, .inl (.ref q0)), (1, .inl (.int a1))], [.inl (.int a1), .inl (.ref (hr h q0 24))], h, 0, 0)))
      refine k_iald HG rfl K t2 rfl (fun _ => rfl) (?_ : G m _ (23, [(2, .inl (.int (0 : Int32))), (0, .inl (.ref q0)), (1, .inl (.int a1))], [.inl (.int (hv h (hr h q0 24) a1.toNatClampNeg))], h, 0, 0))
      refine k_steps HG 1 (zB_iff.mpr (?_ : G m _ (24, [(2, .inl (.int (0 : Int32))), (0, .inl (.ref q0)), (1, .inl (.int a1))], [.inl (.ref q0), .inl (.int (hv h (hr h q0 24) a1.toNatClampNeg))], h, 0, 0)))
      refine k_getI HG rfl K hq_q0 rfl (Nat.le_of_ble_eq_true rfl) rfl (?_ : G m _ (27, [(2, .inl (.int (0 : Int32))), (0, .inl (.ref q0)), (1, .inl (.int a1))], [.inl (.int (hv h q0 11)), .inl (.int (hv h (hr h q0 24) a1.toNatClampNeg))], h, 0, 0))
      refine k_steps HG 1 (kb_lt (x := (hv h (hr h q0 24) a1.toNatClampNeg)) (y := (hv h q0 11)) ?_ ?_)
      · show G m _ (50, [(2, .inl (.int (0 : Int32))), (0, .inl (.ref q0)), (1, .inl (.int a1))], [], h, 0, 0)
        refine k_steps HG 1 (zB_iff.mpr (?_ : G m _ (51, [(2, .inl (.int (0 : Int32))), (0, .inl (.ref q0)), (1, .inl (.int a1))], [.inl (.int (0 : Int32))], h, 0, 0)))
        exact k_reti HG rfl rfl (fun e1 e2 => hR _ _ _ e1 e2 (kOK_wk rfl K))
      · show G m _ (30, [(2, .inl (.int (0 : Int32))), (0, .inl (.ref q0)), (1, .inl (.int a1))], [], h, 0, 0)
        refine k_steps HG 2 (zB_iff.mpr (?_ : G m _ (32, [(2, .inl (.int (0 : Int32))), (0, .inl (.ref q0)), (1, .inl (.int a1))], [.inl (.int a1), .inl (.ref q0)], h, 0, 0)))
        refine k_cVIHd HG (E' := ze_X5_planOf) (Or.inl ⟨rfl, rfl⟩) hsc rfl rfl rfl (kOK_wk (W := W_X5_playsB) rfl K) rfl (fun hh => x_X5_planOfB hsc K.1 hq_q0 (kNul_of V_35 K hq_q0 rfl) hh hlen) (fun y3 K3 Q3 => ?_)
        have A3 := K3
        have K3 := kOK_refl (W := P_X5_playsB) K3.1
        show G m _ (35, [(2, .inl (.int (0 : Int32))), (0, .inl (.ref q0)), (1, .inl (.int a1))], [.inl (.int y3.1)], y3.2, (0 + zEc ze_X5_planOf), (0 + zEs ze_X5_planOf))
        refine k_steps HG 1 (kb_le (x := y3.1) (y := (0 : Int32)) ?_ ?_)
        · show G m _ (50, [(2, .inl (.int (0 : Int32))), (0, .inl (.ref q0)), (1, .inl (.int a1))], [], y3.2, (0 + zEc ze_X5_planOf), (0 + zEs ze_X5_planOf))
          refine k_steps HG 1 (zB_iff.mpr (?_ : G m _ (51, [(2, .inl (.int (0 : Int32))), (0, .inl (.ref q0)), (1, .inl (.int a1))], [.inl (.int (0 : Int32))], y3.2, (0 + zEc ze_X5_planOf), (0 + zEs ze_X5_planOf))))
          exact k_reti HG rfl rfl (fun e1 e2 => hR _ _ _ e1 e2 (kOK_trans A3 rfl K3))
        · show G m _ (38, [(2, .inl (.int (0 : Int32))), (0, .inl (.ref q0)), (1, .inl (.int a1))], [], y3.2, (0 + zEc ze_X5_planOf), (0 + zEs ze_X5_planOf))
          refine k_steps HG 2 (zB_iff.mpr (?_ : G m _ (40, [(2, .inl (.int (0 : Int32))), (0, .inl (.ref q0)), (1, .inl (.int a1))], [.inl (.int a1), .inl (.ref q0)], y3.2, (0 + zEc ze_X5_planOf), (0 + zEs ze_X5_planOf))))
          refine k_cVIH HG (E' := ze_X5_goesOne) (Or.inl ⟨rfl, rfl⟩) hsc rfl rfl rfl rfl rfl K3 rfl (fun hh => x_X5_goesOne hsc K3.1 (tExt_app _ _ _ _ hq_q0) hh) (fun y4 K4 => (?_ : G m _ (43, [(2, .inl (.int (0 : Int32))), (0, .inl (.ref q0)), (1, .inl (.int a1))], [.inl (.int y4.1)], y4.2, (0 + zEc ze_X5_planOf), (0 + zEs ze_X5_planOf))))
          refine k_steps HG 3 (zB_iff.mpr (?_ : G m _ (17, [(2, .inl (.int ((0 : Int32) + (1 : Int32)))), (0, .inl (.ref q0)), (1, .inl (.int a1))], [], y4.2, (0 + zEc ze_X5_planOf), (0 + zEs ze_X5_planOf))))
          have lp5 : ∀ m5, m5 ≤ m → ∀ (nc5 : Nat) (ns5 : Nat) (v5_2 : Int32) (h5 : zH), kOK P_X5_playsB (T ++ vTys) (T ++ vTys) y3.2 h5 → G m5 (Pf (fx (B_X5_playsB_17 (D + 1) q0 a1) (0, []) (v5_2, h5))) (17, [(0, .inl (.ref q0)), (1, .inl (.int a1)), (2, .inl (.int v5_2))], [], h5, nc5, ns5) := by
            intro m5
            induction m5 with
            | zero =>
              intros
              exact k_zero HG
            | succ m5 ih5 =>
              intro le5 nc5 ns5 v5_2 h5 K5
              have le5 := Nat.le_of_succ_le le5
              have ih5 := ih5 le5
              refine k_fx ?_
              rw [B_X5_playsB_17]
              refine k_first HG 0 (zB_iff.mpr (?_ : G m5 _ (18, [(0, .inl (.ref q0)), (1, .inl (.int a1)), (2, .inl (.int v5_2))], [.inl (.ref q0)], h5, nc5, ns5)))
              refine k_getR HG rfl K5 (tExt_app _ _ _ _ hq_q0) rfl (Nat.le_of_ble_eq_true rfl) rfl rfl (fun t6 => (?_ : G m5 _ (21, [(0, .inl (.ref q0)), (1, .inl (.int a1)), (2, .inl (.int v5_2))], [.inl (.ref (hr h5 q0 24))], h5, nc5, ns5)))
              refine k_steps HG 1 (zB_iff.mpr (?_ : G m5 _ (22, [(0, .inl (.ref q0)), (1, .inl (.int a1)), (2, .inl (.int v5_2))], [.inl (.int a1), .inl (.ref (hr h5 q0 24))], h5, nc5, ns5)))
              refine k_iald HG rfl K5 t6 rfl (fun _ => rfl) (?_ : G m5 _ (23, [(0, .inl (.ref q0)), (1, .inl (.int a1)), (2, .inl (.int v5_2))], [.inl (.int (hv h5 (hr h5 q0 24) a1.toNatClampNeg))], h5, nc5, ns5))
              refine k_steps HG 1 (zB_iff.mpr (?_ : G m5 _ (24, [(0, .inl (.ref q0)), (1, .inl (.int a1)), (2, .inl (.int v5_2))], [.inl (.ref q0), .inl (.int (hv h5 (hr h5 q0 24) a1.toNatClampNeg))], h5, nc5, ns5)))
              refine k_getI HG rfl K5 (tExt_app _ _ _ _ hq_q0) rfl (Nat.le_of_ble_eq_true rfl) rfl (?_ : G m5 _ (27, [(0, .inl (.ref q0)), (1, .inl (.int a1)), (2, .inl (.int v5_2))], [.inl (.int (hv h5 q0 11)), .inl (.int (hv h5 (hr h5 q0 24) a1.toNatClampNeg))], h5, nc5, ns5))
              refine k_steps HG 1 (kb_lt (x := (hv h5 (hr h5 q0 24) a1.toNatClampNeg)) (y := (hv h5 q0 11)) ?_ ?_)
              · show G m5 _ (50, [(0, .inl (.ref q0)), (1, .inl (.int a1)), (2, .inl (.int v5_2))], [], h5, nc5, ns5)
                refine k_steps HG 1 (zB_iff.mpr (?_ : G m5 _ (51, [(0, .inl (.ref q0)), (1, .inl (.int a1)), (2, .inl (.int v5_2))], [.inl (.int v5_2)], h5, nc5, ns5)))
                exact k_reti HG rfl rfl (fun e1 e2 => hR _ _ _ e1 e2 (kOK_trans A3 rfl K5))
              · show G m5 _ (30, [(0, .inl (.ref q0)), (1, .inl (.int a1)), (2, .inl (.int v5_2))], [], h5, nc5, ns5)
                refine k_steps HG 2 (zB_iff.mpr (?_ : G m5 _ (32, [(0, .inl (.ref q0)), (1, .inl (.int a1)), (2, .inl (.int v5_2))], [.inl (.int a1), .inl (.ref q0)], h5, nc5, ns5)))
                refine k_cVIHd HG (E' := ze_X5_planOf) (Or.inl ⟨rfl, rfl⟩) hsc rfl rfl rfl K5 rfl (fun hh => x_X5_planOfA hsc K5.1 (tExt_app _ _ _ _ hq_q0) (kN_of Q3 K5 (tExt_app _ _ _ _ hq_q0) rfl) hh) (fun y7 K7 Q7 => (?_ : G m5 _ (35, [(0, .inl (.ref q0)), (1, .inl (.int a1)), (2, .inl (.int v5_2))], [.inl (.int y7.1)], y7.2, (nc5 + zEc ze_X5_planOf), (ns5 + zEs ze_X5_planOf))))
                refine k_steps HG 1 (kb_le (x := y7.1) (y := (0 : Int32)) ?_ ?_)
                · show G m5 _ (50, [(0, .inl (.ref q0)), (1, .inl (.int a1)), (2, .inl (.int v5_2))], [], y7.2, (nc5 + zEc ze_X5_planOf), (ns5 + zEs ze_X5_planOf))
                  refine k_steps HG 1 (zB_iff.mpr (?_ : G m5 _ (51, [(0, .inl (.ref q0)), (1, .inl (.int a1)), (2, .inl (.int v5_2))], [.inl (.int v5_2)], y7.2, (nc5 + zEc ze_X5_planOf), (ns5 + zEs ze_X5_planOf))))
                  exact k_reti HG rfl rfl (fun e1 e2 => hR _ _ _ e1 e2 (kOK_trans A3 rfl K7))
                · show G m5 _ (38, [(0, .inl (.ref q0)), (1, .inl (.int a1)), (2, .inl (.int v5_2))], [], y7.2, (nc5 + zEc ze_X5_planOf), (ns5 + zEs ze_X5_planOf))
                  refine k_steps HG 2 (zB_iff.mpr (?_ : G m5 _ (40, [(0, .inl (.ref q0)), (1, .inl (.int a1)), (2, .inl (.int v5_2))], [.inl (.int a1), .inl (.ref q0)], y7.2, (nc5 + zEc ze_X5_planOf), (ns5 + zEs ze_X5_planOf))))
                  refine k_cVIH HG (E' := ze_X5_goesOne) (Or.inl ⟨rfl, rfl⟩) hsc rfl rfl rfl rfl rfl K7 rfl (fun hh => x_X5_goesOne hsc K7.1 (tExt_app _ _ _ _ hq_q0) hh) (fun y8 K8 => (?_ : G m5 _ (43, [(0, .inl (.ref q0)), (1, .inl (.int a1)), (2, .inl (.int v5_2))], [.inl (.int y8.1)], y8.2, (nc5 + zEc ze_X5_planOf), (ns5 + zEs ze_X5_planOf))))
                  refine k_steps HG 3 (zB_iff.mpr (?_ : G m5 _ (17, [(2, .inl (.int (v5_2 + (1 : Int32)))), (0, .inl (.ref q0)), (1, .inl (.int a1))], [], y8.2, (nc5 + zEc ze_X5_planOf), (ns5 + zEs ze_X5_planOf))))
                  refine k_ext HG (L' := [(0, .inl (.ref q0)), (1, .inl (.int a1)), (2, .inl (.int (v5_2 + (1 : Int32))))]) rfl rfl ⟨rfl, rfl, rfl, trivial⟩ ?_
                  exact ih5 _ _ _ _ K8
          refine k_ext HG (L' := [(0, .inl (.ref q0)), (1, .inl (.int a1)), (2, .inl (.int ((0 : Int32) + (1 : Int32))))]) rfl rfl ⟨rfl, rfl, rfl, trivial⟩ ?_
          exact lp5 m (Nat.le_refl _) _ _ _ _ K4
    · show G m _ (8, [(0, .inl (.ref q0)), (1, .inl (.int a1))], [], h, 0, 0)
      refine k_steps HG 2 (zB_iff.mpr (?_ : G m _ (11, [(0, .inl (.ref q0)), (1, .inl (.int a1))], [.inl (.int (-2 : Int32)), .inl (.ref q0)], h, 0, 0)))
      refine k_cVIH HG (E' := ze_X5_refuse) (Or.inl ⟨rfl, rfl⟩) hsc rfl rfl rfl rfl rfl K rfl (fun hh => x_X5_refuse hsc K.1 hq_q0 hh) (fun y9 K9 => (?_ : G m _ (14, [(0, .inl (.ref q0)), (1, .inl (.int a1))], [.inl (.int y9.1)], y9.2, 0, 0)))
      exact k_reti HG rfl rfl (fun e1 e2 => hR _ _ _ e1 e2 (kOK_wk rfl K9))
