def W_X5_freshA : List (Nat × Nat) := [(6, 9), (6, 10), (6, 11), (6, 12), (6, 13), (6, 14), (6, 15), (6, 17), (6, 23), (31, 1000), (32, 1000), (33, 1000), (34, 1000), (35, 1000), (36, 1000), (37, 1000), (39, 1000)]
noncomputable def J_X5_freshA_j18 (h : zH) (c0 : Nat) : Nat × zH := (letf (F_X5_takeFrom_65 h (hr h c0 27) c0) (fun h6802 => ((hr h6802 c0 27), h6802)))
theorem w_X5_freshA_j18 {scr : List zV} {T0 T : List Nat} {d m nc ns : Nat} {r : Option zV} {h' h h0 : zH} {G : Nat → Prop → zS → Prop} {Pf : Nat × zH → Prop} {c0 : Nat} (HG : G = GL ze_X5_fresh scr (zEc ze_X5_fresh) (zEs ze_X5_fresh) (zD zprog scr d) r h') (hsc : cT scr) (hR : ∀ y hh, some (.inl (.ref y)) = r → hh = h' → kOK W_X5_freshA T0 T h0 hh → (fun v => T[v.1]? = some 6) (y, hh) → Pf (y, hh)) (K : kOK W_X5_freshA T0 T h0 h) (V_27 : kN T h c0 27 6) (hq_c0 : T[c0]? = some 5) : G m (Pf (J_X5_freshA_j18 h c0)) (18, [(0, .inl (.ref c0))], [], h, nc, ns) := by
  have A := K
  have K := kOK_refl (W := W_X5_freshA) A.1
  unfold J_X5_freshA_j18
  refine k_steps HG 1 (zB_iff.mpr (?_ : G m _ (19, [(0, .inl (.ref c0))], [.inl (.ref c0)], h, nc, ns)))
  refine k_getN HG rfl K hq_c0 rfl (kN_of V_27 K hq_c0 rfl) (fun t6801 => (?_ : G m _ (22, [(0, .inl (.ref c0))], [.inl (.ref (hr h c0 27))], h, nc, ns)))
  refine k_steps HG 1 (zB_iff.mpr (?_ : G m _ (23, [(0, .inl (.ref c0))], [.inl (.ref c0), .inl (.ref (hr h c0 27))], h, nc, ns)))
  refine k_cVH HG (E' := ze_X5_takeFrom) (Or.inl ⟨rfl, rfl⟩) hsc rfl rfl rfl rfl rfl K rfl (fun hh => x_X5_takeFrom_65 hsc K.1 t6801 hq_c0 hh) (fun h6802 K6802 => (?_ : G m _ (26, [(0, .inl (.ref c0))], [], h6802, nc, ns)))
  refine k_steps HG 1 (zB_iff.mpr (?_ : G m _ (27, [(0, .inl (.ref c0))], [.inl (.ref c0)], h6802, nc, ns)))
  refine k_getN HG rfl K6802 hq_c0 rfl (kN_of V_27 K6802 hq_c0 rfl) (fun t6803 => (?_ : G m _ (30, [(0, .inl (.ref c0))], [.inl (.ref (hr h6802 c0 27))], h6802, nc, ns)))
  exact k_reta HG rfl rfl (fun e1 e2 => hR _ _ e1 e2 (kOK_trans A rfl K6802) t6803)
noncomputable def F_X5_freshA (h : zH) (q0 : Nat) : Nat × zH := (J_X5_freshA_j18 h q0)
theorem x_X5_freshA {scr : List zV} {D : Nat} {T : List Nat} {h : zH} {q0 : Nat} (hsc : cT scr) (K : hOK kty T h) (hq_q0 : T[q0]? = some 5) (V_27 : kN T h q0 27 6) (hh : cH h) : xRHd scr W_X5_freshA T T (fun v => T[v.1]? = some 6) D 183 [.inl (.ref q0)] h (F_X5_freshA h q0) := by
  cases D with
  | zero => exact fun _ _ hx => absurd hx (fun q => xD_zero q)
  | succ D =>
    refine xRHd_intro (E := ze_X5_fresh) hsc rfl (cTb_ok rfl) hh (fun r h' G HG Pf hR m => ?_)
    have K := kOK_refl (W := W_X5_freshA) K
    unfold F_X5_freshA
    show G m _ (0, [(0, .inl (.ref q0))], [], h, 0, 0)
    refine k_steps HG 1 (zB_iff.mpr (?_ : G m _ (1, [(0, .inl (.ref q0))], [.inl (.ref q0)], h, 0, 0)))
    refine k_getN HG rfl K hq_q0 rfl (kN_of V_27 K hq_q0 rfl) (fun t1 => (?_ : G m _ (4, [(0, .inl (.ref q0))], [.inl (.ref (hr h q0 27))], h, 0, 0)))
    refine k_steps HG 1 (zB_iff.mpr (?_ : G m _ (18, [(0, .inl (.ref q0))], [], h, 0, 0)))
    exact w_X5_freshA_j18 HG hsc hR K (kN_of V_27 K hq_q0 rfl) hq_q0
def W_X5_imageA : List (Nat × Nat) := [(6, 9), (6, 10), (6, 11), (6, 12), (6, 13), (6, 14), (6, 15), (6, 17), (6, 23), (31, 1000), (32, 1000), (33, 1000), (34, 1000), (35, 1000), (36, 1000), (37, 1000), (39, 1000)]
noncomputable def J_X5_imageA_j18 (h : zH) (c0 : Nat) : Int32 × zH := (letf (F_X5_takeFrom_65 h (hr h c0 26) c0) (fun h6802 => ((1 : Int32), h6802)))
theorem w_X5_imageA_j18 {scr : List zV} {T0 T : List Nat} {d m nc ns : Nat} {r : Option zV} {h' h h0 : zH} {G : Nat → Prop → zS → Prop} {Pf : Int32 × zH → Prop} {c0 : Nat} (HG : G = GL ze_X5_image scr (zEc ze_X5_image) (zEs ze_X5_image) (zD zprog scr d) r h') (hsc : cT scr) (hR : ∀ y hh, some (.inl (.int y)) = r → hh = h' → kOK W_X5_imageA T0 T h0 hh → (fun _ => True) (y, hh) → Pf (y, hh)) (K : kOK W_X5_imageA T0 T h0 h) (V_26 : kN T h c0 26 6) (hq_c0 : T[c0]? = some 5) : G m (Pf (J_X5_imageA_j18 h c0)) (18, [(0, .inl (.ref c0))], [], h, nc, ns) := by
  have A := K
  have K := kOK_refl (W := W_X5_imageA) A.1
  unfold J_X5_imageA_j18
  refine k_steps HG 1 (zB_iff.mpr (?_ : G m _ (19, [(0, .inl (.ref c0))], [.inl (.ref c0)], h, nc, ns)))
  refine k_getN HG rfl K hq_c0 rfl (kN_of V_26 K hq_c0 rfl) (fun t6801 => (?_ : G m _ (22, [(0, .inl (.ref c0))], [.inl (.ref (hr h c0 26))], h, nc, ns)))
  refine k_steps HG 1 (zB_iff.mpr (?_ : G m _ (23, [(0, .inl (.ref c0))], [.inl (.ref c0), .inl (.ref (hr h c0 26))], h, nc, ns)))
  refine k_cVH HG (E' := ze_X5_takeFrom) (Or.inl ⟨rfl, rfl⟩) hsc rfl rfl rfl rfl rfl K rfl (fun hh => x_X5_takeFrom_65 hsc K.1 t6801 hq_c0 hh) (fun h6802 K6802 => (?_ : G m _ (26, [(0, .inl (.ref c0))], [], h6802, nc, ns)))
  refine k_steps HG 1 (zB_iff.mpr (?_ : G m _ (27, [(0, .inl (.ref c0))], [.inl (.int (1 : Int32))], h6802, nc, ns)))
  exact k_reti HG rfl rfl (fun e1 e2 => hR _ _ e1 e2 (kOK_trans A rfl K6802) trivial)
noncomputable def F_X5_imageA (h : zH) (q0 : Nat) : Int32 × zH := (J_X5_imageA_j18 h q0)
theorem x_X5_imageA {scr : List zV} {D : Nat} {T : List Nat} {h : zH} {q0 : Nat} (hsc : cT scr) (K : hOK kty T h) (hq_q0 : T[q0]? = some 5) (V_26 : kN T h q0 26 6) (hh : cH h) : xIHd scr W_X5_imageA T T (fun _ => True) D 190 [.inl (.ref q0)] h (F_X5_imageA h q0) := by
  cases D with
  | zero => exact fun _ _ hx => absurd hx (fun q => xD_zero q)
  | succ D =>
    refine xIHd_intro (E := ze_X5_image) hsc rfl (cTb_ok rfl) hh (fun r h' G HG Pf hR m => ?_)
    have K := kOK_refl (W := W_X5_imageA) K
    unfold F_X5_imageA
    show G m _ (0, [(0, .inl (.ref q0))], [], h, 0, 0)
    refine k_steps HG 1 (zB_iff.mpr (?_ : G m _ (1, [(0, .inl (.ref q0))], [.inl (.ref q0)], h, 0, 0)))
    refine k_getN HG rfl K hq_q0 rfl (kN_of V_26 K hq_q0 rfl) (fun t1 => (?_ : G m _ (4, [(0, .inl (.ref q0))], [.inl (.ref (hr h q0 26))], h, 0, 0)))
    refine k_steps HG 1 (zB_iff.mpr (?_ : G m _ (18, [(0, .inl (.ref q0))], [], h, 0, 0)))
    exact w_X5_imageA_j18 HG hsc hR K (kN_of V_26 K hq_q0 rfl) hq_q0
def W_X5_freshB : List (Nat × Nat) := (5, 27) :: W_X5_freshA
noncomputable def F_X5_freshB (h : zH) (q0 : Nat) : Nat × zH := J_X5_freshA_j18 (hM 27 h q0) q0
theorem x_X5_freshB {scr : List zV} {D : Nat} {T : List Nat} {h : zH} {q0 : Nat} (hsc : cT scr) (K : hOK kty T h) (hq_q0 : T[q0]? = some 5) (V_27 : hget h q0 27 = some (.inl .null)) (hh : cH h) (hlen : T.length ≤ 900000) : xRHd scr W_X5_freshB T (T ++ iTys) (fun v => (T ++ iTys)[v.1]? = some 6) D 183 [.inl (.ref q0)] h (F_X5_freshB h q0) := by
  cases D with
  | zero => exact fun _ _ hx => absurd hx (fun q => xD_zero q)
  | succ D =>
    refine xRHd_intro (E := ze_X5_fresh) hsc rfl (cTb_ok rfl) hh (fun r h' G HG Pf hR m => ?_)
    have hl : h.length + 30 ≤ 1000000 := by
      rw [K.1]
      omega
    have K0 := kOK_refl (W := W_X5_freshB) K
    unfold F_X5_freshB
    show G m _ (0, [(0, .inl (.ref q0))], [], h, 0, 0)
    refine k_steps HG 1 (zB_iff.mpr (?_ : G m _ (1, [(0, .inl (.ref q0))], [.inl (.ref q0)], h, 0, 0)))
    refine k_get0 HG rfl K0 hq_q0 rfl V_27 (?_ : G m _ (4, [(0, .inl (.ref q0))], [.inl .null], h, 0, 0))
    refine k_steps HG 2 (zB_iff.mpr (?_ : G m _ (8, [(0, .inl (.ref q0))], [.inl (.ref q0)], h, 0, 0)))
    refine k_new HG rfl ?_
    refine k_steps HG 1 (zB_iff.mpr (?_ : G m _ (12, [(0, .inl (.ref q0))], [.inl (.ref h.length), .inl (.ref h.length), .inl (.ref q0)], h ++ [(5, zdfl 5)], 0 + 1, 0 + zNf 5)))
    refine k_callV HG (E' := ze_X5_init) (Or.inr ⟨rfl, rfl⟩) hsc rfl rfl rfl (fun _ r1 h1 hx => ?_)
    obtain ⟨rfl, rfl⟩ := x_init hl hx
    have K1 := iHp_ok K hlen
    have hq1 := tExt_app T iTys _ _ hq_q0
    refine k_put0 HG rfl K1 hq1 rfl ?_
    obtain ⟨K2, V2⟩ := hM_ok (W := W_X5_freshB) K hlen hq_q0 (i := 27) rfl (Nat.le_of_ble_eq_true rfl) rfl
    exact w_X5_freshA_j18 HG hsc (fun y hh e1 e2 k q => hR y hh e1 e2 (kOK_trans K2 rfl k) q) (kOK_refl K2.1) V2 hq1
def W_X5_imageB : List (Nat × Nat) := (5, 26) :: W_X5_imageA
noncomputable def F_X5_imageB (h : zH) (q0 : Nat) : Int32 × zH := J_X5_imageA_j18 (hM 26 h q0) q0
theorem x_X5_imageB {scr : List zV} {D : Nat} {T : List Nat} {h : zH} {q0 : Nat} (hsc : cT scr) (K : hOK kty T h) (hq_q0 : T[q0]? = some 5) (V_26 : hget h q0 26 = some (.inl .null)) (hh : cH h) (hlen : T.length ≤ 900000) : xIHd scr W_X5_imageB T (T ++ iTys) (fun _ => True) D 190 [.inl (.ref q0)] h (F_X5_imageB h q0) := by
  cases D with
  | zero => exact fun _ _ hx => absurd hx (fun q => xD_zero q)
  | succ D =>
    refine xIHd_intro (E := ze_X5_image) hsc rfl (cTb_ok rfl) hh (fun r h' G HG Pf hR m => ?_)
    have hl : h.length + 30 ≤ 1000000 := by
      rw [K.1]
      omega
    have K0 := kOK_refl (W := W_X5_imageB) K
    unfold F_X5_imageB
    show G m _ (0, [(0, .inl (.ref q0))], [], h, 0, 0)
    refine k_steps HG 1 (zB_iff.mpr (?_ : G m _ (1, [(0, .inl (.ref q0))], [.inl (.ref q0)], h, 0, 0)))
    refine k_get0 HG rfl K0 hq_q0 rfl V_26 (?_ : G m _ (4, [(0, .inl (.ref q0))], [.inl .null], h, 0, 0))
    refine k_steps HG 2 (zB_iff.mpr (?_ : G m _ (8, [(0, .inl (.ref q0))], [.inl (.ref q0)], h, 0, 0)))
    refine k_new HG rfl ?_
    refine k_steps HG 1 (zB_iff.mpr (?_ : G m _ (12, [(0, .inl (.ref q0))], [.inl (.ref h.length), .inl (.ref h.length), .inl (.ref q0)], h ++ [(5, zdfl 5)], 0 + 1, 0 + zNf 5)))
    refine k_callV HG (E' := ze_X5_init) (Or.inr ⟨rfl, rfl⟩) hsc rfl rfl rfl (fun _ r1 h1 hx => ?_)
    obtain ⟨rfl, rfl⟩ := x_init hl hx
    have K1 := iHp_ok K hlen
    have hq1 := tExt_app T iTys _ _ hq_q0
    refine k_put0 HG rfl K1 hq1 rfl ?_
    obtain ⟨K2, V2⟩ := hM_ok (W := W_X5_imageB) K hlen hq_q0 (i := 26) rfl (Nat.le_of_ble_eq_true rfl) rfl
    exact w_X5_imageA_j18 HG hsc (fun y hh e1 e2 k q => hR y hh e1 e2 (kOK_trans K2 rfl k) q) (kOK_refl K2.1) V2 hq1
