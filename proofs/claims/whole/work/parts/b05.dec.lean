def W_X5_wipe : List (Nat × Nat) := [(5, 7)]
noncomputable def F_X5_wipe (h : zH) (q0 : Nat) : Int32 × zH := (letf (hput h q0 7 (.inl (.int (0 : Int32)))) (fun h1 => ((hv h q0 7), h1)))
theorem x_X5_wipe {scr : List zV} {T : List Nat} {h : zH} {q0 : Nat} (hsc : cT scr) (K : hOK kty T h) (hq_q0 : T[q0]? = some 5) (hh : cH h) : xIH scr W_X5_wipe T T 244 [.inl (.ref q0)] h (F_X5_wipe h q0) := by
  refine xIH_intro (E := ze_X5_wipe) hsc rfl (cTb_ok rfl) hh (fun d r h' G HG Pf hR m => ?_)
  have K := kOK_refl (W := W_X5_wipe) K
  unfold F_X5_wipe
  show G m _ (0, [(0, .inl (.ref q0))], [], h, 0, 0)
  refine k_steps HG 1 (zB_iff.mpr (?_ : G m _ (1, [(0, .inl (.ref q0))], [.inl (.ref q0)], h, 0, 0)))
  refine k_getI HG rfl K hq_q0 rfl (Nat.le_of_ble_eq_true rfl) rfl (?_ : G m _ (4, [(0, .inl (.ref q0))], [.inl (.int (hv h q0 7))], h, 0, 0))
  refine k_steps HG 3 (zB_iff.mpr (?_ : G m _ (7, [(1, .inl (.int (hv h q0 7))), (0, .inl (.ref q0))], [.inl (.int (0 : Int32)), .inl (.ref q0)], h, 0, 0)))
  refine k_putI HG rfl K hq_q0 rfl rfl rfl (fun h1 K1 => (?_ : G m _ (10, [(1, .inl (.int (hv h q0 7))), (0, .inl (.ref q0))], [], h1, 0, 0)))
  refine k_steps HG 1 (zB_iff.mpr (?_ : G m _ (11, [(1, .inl (.int (hv h q0 7))), (0, .inl (.ref q0))], [.inl (.int (hv h q0 7))], h1, 0, 0)))
  exact k_reti HG rfl rfl (fun e1 e2 => hR _ _ e1 e2 K1)
def W_X5_wrong : List (Nat × Nat) := [(5, 32)]
noncomputable def F_X5_wrong (h : zH) (q0 : Nat) : Int32 × zH := (letf (hput h q0 32 (.inl (.int (hv h q0 30)))) (fun h1 => ((0 : Int32), h1)))
theorem x_X5_wrong {scr : List zV} {T : List Nat} {h : zH} {q0 : Nat} (hsc : cT scr) (K : hOK kty T h) (hq_q0 : T[q0]? = some 5) (hh : cH h) : xIH scr W_X5_wrong T T 249 [.inl (.ref q0)] h (F_X5_wrong h q0) := by
  refine xIH_intro (E := ze_X5_wrong) hsc rfl (cTb_ok rfl) hh (fun d r h' G HG Pf hR m => ?_)
  have K := kOK_refl (W := W_X5_wrong) K
  unfold F_X5_wrong
  show G m _ (0, [(0, .inl (.ref q0))], [], h, 0, 0)
  refine k_steps HG 2 (zB_iff.mpr (?_ : G m _ (2, [(0, .inl (.ref q0))], [.inl (.ref q0), .inl (.ref q0)], h, 0, 0)))
  refine k_getI HG rfl K hq_q0 rfl (Nat.le_of_ble_eq_true rfl) rfl (?_ : G m _ (5, [(0, .inl (.ref q0))], [.inl (.int (hv h q0 30)), .inl (.ref q0)], h, 0, 0))
  refine k_putI HG rfl K hq_q0 rfl rfl rfl (fun h1 K1 => (?_ : G m _ (8, [(0, .inl (.ref q0))], [], h1, 0, 0)))
  refine k_steps HG 1 (zB_iff.mpr (?_ : G m _ (9, [(0, .inl (.ref q0))], [.inl (.int (0 : Int32))], h1, 0, 0)))
  exact k_retz HG rfl rfl (fun e1 e2 => hR _ _ e1 e2 K1)
noncomputable def F_X1_isFreeForThing (h : zH) (q0 : Nat) (a1 : Int32) : Int32 := (letf (F_X1_isIn h q0 a1) (fun y1 => (if y1 = (0 : Int32) then (0 : Int32) else (letf (F_X1_thingOn h q0 a1) (fun y2 => (if y2 = (-1 : Int32) then (1 : Int32) else (0 : Int32)))))))
theorem x_X1_isFreeForThing {scr : List zV} {T : List Nat} {h : zH} {q0 : Nat} {a1 : Int32} (hsc : cT scr) (K : hOK kty T h) (hq_q0 : T[q0]? = some 1) (hh : cH h) : xI scr 3 [.inl (.ref q0), .inl (.int a1)] h (F_X1_isFreeForThing h q0 a1) := by
  refine xI_intro (E := ze_X1_isFreeForThing) hsc rfl (cTb_ok rfl) hh (fun d r h' G HG Pf hR m => ?_)
  have K := kOK_refl (W := []) K
  unfold F_X1_isFreeForThing
  show G m _ (0, [(0, .inl (.ref q0)), (1, .inl (.int a1))], [], h, 0, 0)
  refine k_steps HG 2 (zB_iff.mpr (?_ : G m _ (2, [(0, .inl (.ref q0)), (1, .inl (.int a1))], [.inl (.int a1), .inl (.ref q0)], h, 0, 0)))
  refine k_cVI HG (E' := ze_X1_isIn) (Or.inl ⟨rfl, rfl⟩) hsc rfl rfl rfl rfl rfl (fun hh => x_X1_isIn hsc K.1 hq_q0 hh) (fun y1 => (?_ : G m _ (5, [(0, .inl (.ref q0)), (1, .inl (.int a1))], [.inl (.int y1)], h, 0, 0)))
  refine k_steps HG 1 (kb_eq (x := y1) (y := (0 : Int32)) ?_ ?_)
  · show G m _ (21, [(0, .inl (.ref q0)), (1, .inl (.int a1))], [], h, 0, 0)
    refine k_steps HG 1 (zB_iff.mpr (?_ : G m _ (22, [(0, .inl (.ref q0)), (1, .inl (.int a1))], [.inl (.int (0 : Int32))], h, 0, 0)))
    exact k_retz HG rfl rfl (fun e1 e2 => hR _ e1 e2)
  · show G m _ (8, [(0, .inl (.ref q0)), (1, .inl (.int a1))], [], h, 0, 0)
    refine k_steps HG 2 (zB_iff.mpr (?_ : G m _ (10, [(0, .inl (.ref q0)), (1, .inl (.int a1))], [.inl (.int a1), .inl (.ref q0)], h, 0, 0)))
    refine k_cVI HG (E' := ze_X1_thingOn) (Or.inl ⟨rfl, rfl⟩) hsc rfl rfl rfl rfl rfl (fun hh => x_X1_thingOn hsc K.1 hq_q0 hh) (fun y2 => (?_ : G m _ (13, [(0, .inl (.ref q0)), (1, .inl (.int a1))], [.inl (.int y2)], h, 0, 0)))
    refine k_steps HG 2 (kb_ne (x := y2) (y := (-1 : Int32)) ?_ ?_)
    · show G m _ (21, [(0, .inl (.ref q0)), (1, .inl (.int a1))], [], h, 0, 0)
      refine k_steps HG 1 (zB_iff.mpr (?_ : G m _ (22, [(0, .inl (.ref q0)), (1, .inl (.int a1))], [.inl (.int (0 : Int32))], h, 0, 0)))
      exact k_retz HG rfl rfl (fun e1 e2 => hR _ e1 e2)
    · show G m _ (17, [(0, .inl (.ref q0)), (1, .inl (.int a1))], [], h, 0, 0)
      refine k_steps HG 2 (zB_iff.mpr (?_ : G m _ (22, [(0, .inl (.ref q0)), (1, .inl (.int a1))], [.inl (.int (1 : Int32))], h, 0, 0)))
      exact k_retz HG rfl rfl (fun e1 e2 => hR _ e1 e2)
noncomputable def F_X3_isSet (a0 : Int32) : Int32 := (letf (F_X4_isWithin a0 (0 : Int32) (255 : Int32)) (fun y1 => y1))
theorem x_X3_isSet {scr : List zV} {h : zH} {a0 : Int32} (hsc : cT scr) (hh : cH h) : xI scr 10 [.inl (.int a0)] h (F_X3_isSet a0) := by
  refine xI_intro (E := ze_X3_isSet) hsc rfl (cTb_ok rfl) hh (fun d r h' G HG Pf hR m => ?_)
  unfold F_X3_isSet
  show G m _ (0, [(0, .inl (.int a0))], [], h, 0, 0)
  refine k_steps HG 3 (zB_iff.mpr (?_ : G m _ (5, [(0, .inl (.int a0))], [.inl (.int (255 : Int32)), .inl (.int (0 : Int32)), .inl (.int a0)], h, 0, 0)))
  refine k_cSI HG (E' := ze_X4_isWithin) (Or.inr rfl) hsc rfl rfl rfl rfl (fun hh => x_X4_isWithin hsc hh) (fun y1 => (?_ : G m _ (8, [(0, .inl (.int a0))], [.inl (.int y1)], h, 0, 0)))
  exact k_retz HG rfl rfl (fun e1 e2 => hR _ e1 e2)
noncomputable def F_X4_isShelf (a0 : Int32) : Int32 := (letf (F_X4_isWithin a0 (0 : Int32) (7 : Int32)) (fun y1 => y1))
theorem x_X4_isShelf {scr : List zV} {h : zH} {a0 : Int32} (hsc : cT scr) (hh : cH h) : xI scr 11 [.inl (.int a0)] h (F_X4_isShelf a0) := by
  refine xI_intro (E := ze_X4_isShelf) hsc rfl (cTb_ok rfl) hh (fun d r h' G HG Pf hR m => ?_)
  unfold F_X4_isShelf
  show G m _ (0, [(0, .inl (.int a0))], [], h, 0, 0)
  refine k_steps HG 3 (zB_iff.mpr (?_ : G m _ (4, [(0, .inl (.int a0))], [.inl (.int (7 : Int32)), .inl (.int (0 : Int32)), .inl (.int a0)], h, 0, 0)))
  refine k_cSI HG (E' := ze_X4_isWithin) (Or.inl rfl) hsc rfl rfl rfl rfl (fun hh => x_X4_isWithin hsc hh) (fun y1 => (?_ : G m _ (7, [(0, .inl (.int a0))], [.inl (.int y1)], h, 0, 0)))
  exact k_retz HG rfl rfl (fun e1 e2 => hR _ e1 e2)
noncomputable def F_X5_isBuyer (h : zH) (q0 : Nat) (a1 : Int32) : Int32 := (letf (F_X5_in (Int32.toInt64 a1) (0 : Int64) (Int32.toInt64 ((hv h q0 23) - (1 : Int32)))) (fun y1 => y1))
theorem x_X5_isBuyer {scr : List zV} {T : List Nat} {h : zH} {q0 : Nat} {a1 : Int32} (hsc : cT scr) (K : hOK kty T h) (hq_q0 : T[q0]? = some 5) (hh : cH h) : xI scr 14 [.inl (.ref q0), .inl (.int a1)] h (F_X5_isBuyer h q0 a1) := by
  refine xI_intro (E := ze_X5_isBuyer) hsc rfl (cTb_ok rfl) hh (fun d r h' G HG Pf hR m => ?_)
  have K := kOK_refl (W := []) K
  unfold F_X5_isBuyer
  show G m _ (0, [(0, .inl (.ref q0)), (1, .inl (.int a1))], [], h, 0, 0)
  refine k_steps HG 4 (zB_iff.mpr (?_ : G m _ (4, [(0, .inl (.ref q0)), (1, .inl (.int a1))], [.inl (.ref q0), .inl (.long (0 : Int64)), .inl (.long (Int32.toInt64 a1))], h, 0, 0)))
  refine k_getI HG rfl K hq_q0 rfl (Nat.le_of_ble_eq_true rfl) rfl (?_ : G m _ (7, [(0, .inl (.ref q0)), (1, .inl (.int a1))], [.inl (.int (hv h q0 23)), .inl (.long (0 : Int64)), .inl (.long (Int32.toInt64 a1))], h, 0, 0))
  refine k_steps HG 3 (zB_iff.mpr (?_ : G m _ (10, [(0, .inl (.ref q0)), (1, .inl (.int a1))], [.inl (.long (Int32.toInt64 ((hv h q0 23) - (1 : Int32)))), .inl (.long (0 : Int64)), .inl (.long (Int32.toInt64 a1))], h, 0, 0)))
  refine k_cSI HG (E' := ze_X5_in) (Or.inl rfl) hsc rfl rfl rfl rfl (fun hh => x_X5_in hsc hh) (fun y1 => (?_ : G m _ (13, [(0, .inl (.ref q0)), (1, .inl (.int a1))], [.inl (.int y1)], h, 0, 0)))
  exact k_retz HG rfl rfl (fun e1 e2 => hR _ e1 e2)
noncomputable def F_X5_isBuyer_6 (h : zH) (q0 : Nat) (a1 : Int32) : Int32 := (letf (F_X5_in (Int32.toInt64 a1) (0 : Int64) (Int32.toInt64 ((hv h q0 23) - (1 : Int32)))) (fun y1 => y1))
theorem x_X5_isBuyer_6 {scr : List zV} {T : List Nat} {h : zH} {q0 : Nat} {a1 : Int32} (hsc : cT scr) (K : hOK kty T h) (hq_q0 : T[q0]? = some 6) (hh : cH h) : xI scr 14 [.inl (.ref q0), .inl (.int a1)] h (F_X5_isBuyer_6 h q0 a1) := by
  refine xI_intro (E := ze_X5_isBuyer) hsc rfl (cTb_ok rfl) hh (fun d r h' G HG Pf hR m => ?_)
  have K := kOK_refl (W := []) K
  unfold F_X5_isBuyer_6
  show G m _ (0, [(0, .inl (.ref q0)), (1, .inl (.int a1))], [], h, 0, 0)
  refine k_steps HG 4 (zB_iff.mpr (?_ : G m _ (4, [(0, .inl (.ref q0)), (1, .inl (.int a1))], [.inl (.ref q0), .inl (.long (0 : Int64)), .inl (.long (Int32.toInt64 a1))], h, 0, 0)))
  refine k_getI HG rfl K hq_q0 rfl (Nat.le_of_ble_eq_true rfl) rfl (?_ : G m _ (7, [(0, .inl (.ref q0)), (1, .inl (.int a1))], [.inl (.int (hv h q0 23)), .inl (.long (0 : Int64)), .inl (.long (Int32.toInt64 a1))], h, 0, 0))
  refine k_steps HG 3 (zB_iff.mpr (?_ : G m _ (10, [(0, .inl (.ref q0)), (1, .inl (.int a1))], [.inl (.long (Int32.toInt64 ((hv h q0 23) - (1 : Int32)))), .inl (.long (0 : Int64)), .inl (.long (Int32.toInt64 a1))], h, 0, 0)))
  refine k_cSI HG (E' := ze_X5_in) (Or.inl rfl) hsc rfl rfl rfl rfl (fun hh => x_X5_in hsc hh) (fun y1 => (?_ : G m _ (13, [(0, .inl (.ref q0)), (1, .inl (.int a1))], [.inl (.int y1)], h, 0, 0)))
  exact k_retz HG rfl rfl (fun e1 e2 => hR _ e1 e2)
noncomputable def F_X5_isThing (h : zH) (q0 : Nat) (a1 : Int32) : Int32 := (letf (F_X5_in (Int32.toInt64 a1) (0 : Int64) (Int32.toInt64 ((hv h q0 17) - (1 : Int32)))) (fun y1 => y1))
theorem x_X5_isThing {scr : List zV} {T : List Nat} {h : zH} {q0 : Nat} {a1 : Int32} (hsc : cT scr) (K : hOK kty T h) (hq_q0 : T[q0]? = some 5) (hh : cH h) : xI scr 18 [.inl (.ref q0), .inl (.int a1)] h (F_X5_isThing h q0 a1) := by
  refine xI_intro (E := ze_X5_isThing) hsc rfl (cTb_ok rfl) hh (fun d r h' G HG Pf hR m => ?_)
  have K := kOK_refl (W := []) K
  unfold F_X5_isThing
  show G m _ (0, [(0, .inl (.ref q0)), (1, .inl (.int a1))], [], h, 0, 0)
  refine k_steps HG 4 (zB_iff.mpr (?_ : G m _ (4, [(0, .inl (.ref q0)), (1, .inl (.int a1))], [.inl (.ref q0), .inl (.long (0 : Int64)), .inl (.long (Int32.toInt64 a1))], h, 0, 0)))
  refine k_getI HG rfl K hq_q0 rfl (Nat.le_of_ble_eq_true rfl) rfl (?_ : G m _ (7, [(0, .inl (.ref q0)), (1, .inl (.int a1))], [.inl (.int (hv h q0 17)), .inl (.long (0 : Int64)), .inl (.long (Int32.toInt64 a1))], h, 0, 0))
  refine k_steps HG 3 (zB_iff.mpr (?_ : G m _ (10, [(0, .inl (.ref q0)), (1, .inl (.int a1))], [.inl (.long (Int32.toInt64 ((hv h q0 17) - (1 : Int32)))), .inl (.long (0 : Int64)), .inl (.long (Int32.toInt64 a1))], h, 0, 0)))
  refine k_cSI HG (E' := ze_X5_in) (Or.inl rfl) hsc rfl rfl rfl rfl (fun hh => x_X5_in hsc hh) (fun y1 => (?_ : G m _ (13, [(0, .inl (.ref q0)), (1, .inl (.int a1))], [.inl (.int y1)], h, 0, 0)))
  exact k_retz HG rfl rfl (fun e1 e2 => hR _ e1 e2)
noncomputable def F_X5_isThing_6 (h : zH) (q0 : Nat) (a1 : Int32) : Int32 := (letf (F_X5_in (Int32.toInt64 a1) (0 : Int64) (Int32.toInt64 ((hv h q0 17) - (1 : Int32)))) (fun y1 => y1))
theorem x_X5_isThing_6 {scr : List zV} {T : List Nat} {h : zH} {q0 : Nat} {a1 : Int32} (hsc : cT scr) (K : hOK kty T h) (hq_q0 : T[q0]? = some 6) (hh : cH h) : xI scr 18 [.inl (.ref q0), .inl (.int a1)] h (F_X5_isThing_6 h q0 a1) := by
  refine xI_intro (E := ze_X5_isThing) hsc rfl (cTb_ok rfl) hh (fun d r h' G HG Pf hR m => ?_)
  have K := kOK_refl (W := []) K
  unfold F_X5_isThing_6
  show G m _ (0, [(0, .inl (.ref q0)), (1, .inl (.int a1))], [], h, 0, 0)
  refine k_steps HG 4 (zB_iff.mpr (?_ : G m _ (4, [(0, .inl (.ref q0)), (1, .inl (.int a1))], [.inl (.ref q0), .inl (.long (0 : Int64)), .inl (.long (Int32.toInt64 a1))], h, 0, 0)))
  refine k_getI HG rfl K hq_q0 rfl (Nat.le_of_ble_eq_true rfl) rfl (?_ : G m _ (7, [(0, .inl (.ref q0)), (1, .inl (.int a1))], [.inl (.int (hv h q0 17)), .inl (.long (0 : Int64)), .inl (.long (Int32.toInt64 a1))], h, 0, 0))
  refine k_steps HG 3 (zB_iff.mpr (?_ : G m _ (10, [(0, .inl (.ref q0)), (1, .inl (.int a1))], [.inl (.long (Int32.toInt64 ((hv h q0 17) - (1 : Int32)))), .inl (.long (0 : Int64)), .inl (.long (Int32.toInt64 a1))], h, 0, 0)))
  refine k_cSI HG (E' := ze_X5_in) (Or.inl rfl) hsc rfl rfl rfl rfl (fun hh => x_X5_in hsc hh) (fun y1 => (?_ : G m _ (13, [(0, .inl (.ref q0)), (1, .inl (.int a1))], [.inl (.int y1)], h, 0, 0)))
  exact k_retz HG rfl rfl (fun e1 e2 => hR _ e1 e2)
noncomputable def F_X5_isWinner (h : zH) (q0 : Nat) (a1 : Int32) : Int32 := (letf (F_X5_in (Int32.toInt64 a1) (1 : Int64) (Int32.toInt64 (hv h q0 9))) (fun y1 => (if y1 = (0 : Int32) then (0 : Int32) else (if (jrem a1 (hv h q0 10)) = (0 : Int32) then (1 : Int32) else (0 : Int32)))))
theorem x_X5_isWinner {scr : List zV} {T : List Nat} {h : zH} {q0 : Nat} {a1 : Int32} (hsc : cT scr) (K : hOK kty T h) (hq_q0 : T[q0]? = some 5) (hh : cH h) : xI scr 20 [.inl (.ref q0), .inl (.int a1)] h (F_X5_isWinner h q0 a1) := by
  refine xI_intro (E := ze_X5_isWinner) hsc rfl (cTb_ok rfl) hh (fun d r h' G HG Pf hR m => ?_)
  have K := kOK_refl (W := []) K
  unfold F_X5_isWinner
  show G m _ (0, [(0, .inl (.ref q0)), (1, .inl (.int a1))], [], h, 0, 0)
  refine k_steps HG 4 (zB_iff.mpr (?_ : G m _ (4, [(0, .inl (.ref q0)), (1, .inl (.int a1))], [.inl (.ref q0), .inl (.long (1 : Int64)), .inl (.long (Int32.toInt64 a1))], h, 0, 0)))
  refine k_getI HG rfl K hq_q0 rfl (Nat.le_of_ble_eq_true rfl) rfl (?_ : G m _ (7, [(0, .inl (.ref q0)), (1, .inl (.int a1))], [.inl (.int (hv h q0 9)), .inl (.long (1 : Int64)), .inl (.long (Int32.toInt64 a1))], h, 0, 0))
  refine k_steps HG 1 (zB_iff.mpr (?_ : G m _ (8, [(0, .inl (.ref q0)), (1, .inl (.int a1))], [.inl (.long (Int32.toInt64 (hv h q0 9))), .inl (.long (1 : Int64)), .inl (.long (Int32.toInt64 a1))], h, 0, 0)))
  refine k_cSI HG (E' := ze_X5_in) (Or.inl rfl) hsc rfl rfl rfl rfl (fun hh => x_X5_in hsc hh) (fun y1 => (?_ : G m _ (11, [(0, .inl (.ref q0)), (1, .inl (.int a1))], [.inl (.int y1)], h, 0, 0)))
  refine k_steps HG 1 (kb_eq (x := y1) (y := (0 : Int32)) ?_ ?_)
  · show G m _ (27, [(0, .inl (.ref q0)), (1, .inl (.int a1))], [], h, 0, 0)
    refine k_steps HG 1 (zB_iff.mpr (?_ : G m _ (28, [(0, .inl (.ref q0)), (1, .inl (.int a1))], [.inl (.int (0 : Int32))], h, 0, 0)))
    exact k_retz HG rfl rfl (fun e1 e2 => hR _ e1 e2)
  · show G m _ (14, [(0, .inl (.ref q0)), (1, .inl (.int a1))], [], h, 0, 0)
    refine k_steps HG 2 (zB_iff.mpr (?_ : G m _ (16, [(0, .inl (.ref q0)), (1, .inl (.int a1))], [.inl (.ref q0), .inl (.int a1)], h, 0, 0)))
    refine k_getI HG rfl K hq_q0 rfl (Nat.le_of_ble_eq_true rfl) rfl (?_ : G m _ (19, [(0, .inl (.ref q0)), (1, .inl (.int a1))], [.inl (.int (hv h q0 10)), .inl (.int a1)], h, 0, 0))
    refine k_rem HG rfl (?_ : G m _ (20, [(0, .inl (.ref q0)), (1, .inl (.int a1))], [.inl (.int (jrem a1 (hv h q0 10)))], h, 0, 0))
    refine k_steps HG 1 (kb_ne (x := (jrem a1 (hv h q0 10))) (y := (0 : Int32)) ?_ ?_)
    · show G m _ (27, [(0, .inl (.ref q0)), (1, .inl (.int a1))], [], h, 0, 0)
      refine k_steps HG 1 (zB_iff.mpr (?_ : G m _ (28, [(0, .inl (.ref q0)), (1, .inl (.int a1))], [.inl (.int (0 : Int32))], h, 0, 0)))
      exact k_retz HG rfl rfl (fun e1 e2 => hR _ e1 e2)
    · show G m _ (23, [(0, .inl (.ref q0)), (1, .inl (.int a1))], [], h, 0, 0)
      refine k_steps HG 2 (zB_iff.mpr (?_ : G m _ (28, [(0, .inl (.ref q0)), (1, .inl (.int a1))], [.inl (.int (1 : Int32))], h, 0, 0)))
      exact k_retz HG rfl rfl (fun e1 e2 => hR _ e1 e2)
noncomputable def F_X5_isWinner_6 (h : zH) (q0 : Nat) (a1 : Int32) : Int32 := (letf (F_X5_in (Int32.toInt64 a1) (1 : Int64) (Int32.toInt64 (hv h q0 9))) (fun y1 => (if y1 = (0 : Int32) then (0 : Int32) else (if (jrem a1 (hv h q0 10)) = (0 : Int32) then (1 : Int32) else (0 : Int32)))))
theorem x_X5_isWinner_6 {scr : List zV} {T : List Nat} {h : zH} {q0 : Nat} {a1 : Int32} (hsc : cT scr) (K : hOK kty T h) (hq_q0 : T[q0]? = some 6) (hh : cH h) : xI scr 20 [.inl (.ref q0), .inl (.int a1)] h (F_X5_isWinner_6 h q0 a1) := by
  refine xI_intro (E := ze_X5_isWinner) hsc rfl (cTb_ok rfl) hh (fun d r h' G HG Pf hR m => ?_)
  have K := kOK_refl (W := []) K
  unfold F_X5_isWinner_6
  show G m _ (0, [(0, .inl (.ref q0)), (1, .inl (.int a1))], [], h, 0, 0)
  refine k_steps HG 4 (zB_iff.mpr (?_ : G m _ (4, [(0, .inl (.ref q0)), (1, .inl (.int a1))], [.inl (.ref q0), .inl (.long (1 : Int64)), .inl (.long (Int32.toInt64 a1))], h, 0, 0)))
  refine k_getI HG rfl K hq_q0 rfl (Nat.le_of_ble_eq_true rfl) rfl (?_ : G m _ (7, [(0, .inl (.ref q0)), (1, .inl (.int a1))], [.inl (.int (hv h q0 9)), .inl (.long (1 : Int64)), .inl (.long (Int32.toInt64 a1))], h, 0, 0))
  refine k_steps HG 1 (zB_iff.mpr (?_ : G m _ (8, [(0, .inl (.ref q0)), (1, .inl (.int a1))], [.inl (.long (Int32.toInt64 (hv h q0 9))), .inl (.long (1 : Int64)), .inl (.long (Int32.toInt64 a1))], h, 0, 0)))
  refine k_cSI HG (E' := ze_X5_in) (Or.inl rfl) hsc rfl rfl rfl rfl (fun hh => x_X5_in hsc hh) (fun y1 => (?_ : G m _ (11, [(0, .inl (.ref q0)), (1, .inl (.int a1))], [.inl (.int y1)], h, 0, 0)))
  refine k_steps HG 1 (kb_eq (x := y1) (y := (0 : Int32)) ?_ ?_)
  · show G m _ (27, [(0, .inl (.ref q0)), (1, .inl (.int a1))], [], h, 0, 0)
    refine k_steps HG 1 (zB_iff.mpr (?_ : G m _ (28, [(0, .inl (.ref q0)), (1, .inl (.int a1))], [.inl (.int (0 : Int32))], h, 0, 0)))
    exact k_retz HG rfl rfl (fun e1 e2 => hR _ e1 e2)
  · show G m _ (14, [(0, .inl (.ref q0)), (1, .inl (.int a1))], [], h, 0, 0)
    refine k_steps HG 2 (zB_iff.mpr (?_ : G m _ (16, [(0, .inl (.ref q0)), (1, .inl (.int a1))], [.inl (.ref q0), .inl (.int a1)], h, 0, 0)))
    refine k_getI HG rfl K hq_q0 rfl (Nat.le_of_ble_eq_true rfl) rfl (?_ : G m _ (19, [(0, .inl (.ref q0)), (1, .inl (.int a1))], [.inl (.int (hv h q0 10)), .inl (.int a1)], h, 0, 0))
    refine k_rem HG rfl (?_ : G m _ (20, [(0, .inl (.ref q0)), (1, .inl (.int a1))], [.inl (.int (jrem a1 (hv h q0 10)))], h, 0, 0))
    refine k_steps HG 1 (kb_ne (x := (jrem a1 (hv h q0 10))) (y := (0 : Int32)) ?_ ?_)
    · show G m _ (27, [(0, .inl (.ref q0)), (1, .inl (.int a1))], [], h, 0, 0)
      refine k_steps HG 1 (zB_iff.mpr (?_ : G m _ (28, [(0, .inl (.ref q0)), (1, .inl (.int a1))], [.inl (.int (0 : Int32))], h, 0, 0)))
      exact k_retz HG rfl rfl (fun e1 e2 => hR _ e1 e2)
    · show G m _ (23, [(0, .inl (.ref q0)), (1, .inl (.int a1))], [], h, 0, 0)
      refine k_steps HG 2 (zB_iff.mpr (?_ : G m _ (28, [(0, .inl (.ref q0)), (1, .inl (.int a1))], [.inl (.int (1 : Int32))], h, 0, 0)))
      exact k_retz HG rfl rfl (fun e1 e2 => hR _ e1 e2)
noncomputable def F_X0_holdsRow (h : zH) (q0 : Nat) : Int32 := (letf (F_X4_isWithin (hv h q0 0) (0 : Int32) (4 : Int32)) (fun y1 => y1))
theorem x_X0_holdsRow {scr : List zV} {T : List Nat} {h : zH} {q0 : Nat} (hsc : cT scr) (K : hOK kty T h) (hq_q0 : T[q0]? = some 0) (hh : cH h) : xI scr 24 [.inl (.ref q0)] h (F_X0_holdsRow h q0) := by
  refine xI_intro (E := ze_X0_holdsRow) hsc rfl (cTb_ok rfl) hh (fun d r h' G HG Pf hR m => ?_)
  have K := kOK_refl (W := []) K
  unfold F_X0_holdsRow
  show G m _ (0, [(0, .inl (.ref q0))], [], h, 0, 0)
  refine k_steps HG 1 (zB_iff.mpr (?_ : G m _ (1, [(0, .inl (.ref q0))], [.inl (.ref q0)], h, 0, 0)))
  refine k_getI HG rfl K hq_q0 rfl (Nat.le_of_ble_eq_true rfl) rfl (?_ : G m _ (4, [(0, .inl (.ref q0))], [.inl (.int (hv h q0 0))], h, 0, 0))
  refine k_steps HG 2 (zB_iff.mpr (?_ : G m _ (6, [(0, .inl (.ref q0))], [.inl (.int (4 : Int32)), .inl (.int (0 : Int32)), .inl (.int (hv h q0 0))], h, 0, 0)))
  refine k_cSI HG (E' := ze_X4_isWithin) (Or.inr rfl) hsc rfl rfl rfl rfl (fun hh => x_X4_isWithin hsc hh) (fun y1 => (?_ : G m _ (9, [(0, .inl (.ref q0))], [.inl (.int y1)], h, 0, 0)))
  exact k_retz HG rfl rfl (fun e1 e2 => hR _ e1 e2)
noncomputable def F_X0_lowestBits (h : zH) (q0 : Nat) (b1 : Int64) : Int64 := (if (hv h q0 0) = (0 : Int32) then (Int32.toInt64 (Int8.toInt32 (Int32.toInt8 (Int64.toInt32 b1)))) else (if (hv h q0 0) = (1 : Int32) then (Int32.toInt64 (Int16.toInt32 (Int32.toInt16 (Int64.toInt32 b1)))) else (if (hv h q0 0) = (2 : Int32) then (Int32.toInt64 (Int64.toInt32 b1)) else (if (hv h q0 0) = (3 : Int32) then b1 else (if (hv h q0 0) = (4 : Int32) then (if b1 = (0 : Int64) then (letf (F_X4_asNumber (0 : Int32)) (fun y2 => (Int32.toInt64 y2))) else (letf (F_X4_asNumber (1 : Int32)) (fun y3 => (Int32.toInt64 y3)))) else b1)))))
theorem x_X0_lowestBits {scr : List zV} {T : List Nat} {h : zH} {q0 : Nat} {b1 : Int64} (hsc : cT scr) (K : hOK kty T h) (hq_q0 : T[q0]? = some 0) (hh : cH h) : xJ scr 27 [.inl (.ref q0), .inl (.long b1)] h (F_X0_lowestBits h q0 b1) := by
  refine xJ_intro (E := ze_X0_lowestBits) hsc rfl (cTb_ok rfl) hh (fun d r h' G HG Pf hR m => ?_)
  have K := kOK_refl (W := []) K
  unfold F_X0_lowestBits
  show G m _ (0, [(0, .inl (.ref q0)), (1, .inl (.long b1))], [], h, 0, 0)
  refine k_steps HG 1 (zB_iff.mpr (?_ : G m _ (1, [(0, .inl (.ref q0)), (1, .inl (.long b1))], [.inl (.ref q0)], h, 0, 0)))
  refine k_getI HG rfl K hq_q0 rfl (Nat.le_of_ble_eq_true rfl) rfl (?_ : G m _ (4, [(0, .inl (.ref q0)), (1, .inl (.long b1))], [.inl (.int (hv h q0 0))], h, 0, 0))
  refine g_tsw (k_walk HG) (d := 66) (lo := 0) (hi := 4) (offs := #[36, 41, 46, 66, 50]) rfl (x := (hv h q0 0)) rfl (fun hs1 => zB_iff.mpr ?_) (And.intro (fun hs1 => zB_iff.mpr ?_) (And.intro (fun hs1 => zB_iff.mpr ?_) (And.intro (fun hs1 => zB_iff.mpr ?_) (And.intro (fun hs1 => zB_iff.mpr ?_) (And.intro (fun hs1 => zB_iff.mpr ?_) trivial)))))
  · show G m _ (70, [(0, .inl (.ref q0)), (1, .inl (.long b1))], [], h, 0, 0)
    refine k_neg (k_swn (lo := 0) (hi := 4) hs1 (by decide)) ?_
    refine k_neg (k_swn (lo := 0) (hi := 4) hs1 (by decide)) ?_
    refine k_neg (k_swn (lo := 0) (hi := 4) hs1 (by decide)) ?_
    refine k_neg (k_swn (lo := 0) (hi := 4) hs1 (by decide)) ?_
    refine k_neg (k_swn (lo := 0) (hi := 4) hs1 (by decide)) ?_
    refine k_steps HG 1 (zB_iff.mpr (?_ : G m _ (71, [(0, .inl (.ref q0)), (1, .inl (.long b1))], [.inl (.long b1)], h, 0, 0)))
    exact k_retl HG rfl rfl (fun e1 e2 => hR _ e1 e2)
  · show G m _ (40, [(0, .inl (.ref q0)), (1, .inl (.long b1))], [], h, 0, 0)
    have hs1 : (hv h q0 0) = (0 : Int32) := k_sw hs1 rfl
    refine k_pos hs1 ?_
    refine k_steps HG 4 (zB_iff.mpr (?_ : G m _ (44, [(0, .inl (.ref q0)), (1, .inl (.long b1))], [.inl (.long (Int32.toInt64 (Int8.toInt32 (Int32.toInt8 (Int64.toInt32 b1)))))], h, 0, 0)))
    exact k_retl HG rfl rfl (fun e1 e2 => hR _ e1 e2)
  · show G m _ (45, [(0, .inl (.ref q0)), (1, .inl (.long b1))], [], h, 0, 0)
    have hs1 : (hv h q0 0) = (1 : Int32) := k_sw hs1 rfl
    refine k_neg (by rw [hs1]; decide) ?_
    refine k_pos hs1 ?_
    refine k_steps HG 4 (zB_iff.mpr (?_ : G m _ (49, [(0, .inl (.ref q0)), (1, .inl (.long b1))], [.inl (.long (Int32.toInt64 (Int16.toInt32 (Int32.toInt16 (Int64.toInt32 b1)))))], h, 0, 0)))
    exact k_retl HG rfl rfl (fun e1 e2 => hR _ e1 e2)
  · show G m _ (50, [(0, .inl (.ref q0)), (1, .inl (.long b1))], [], h, 0, 0)
    have hs1 : (hv h q0 0) = (2 : Int32) := k_sw hs1 rfl
    refine k_neg (by rw [hs1]; decide) ?_
    refine k_neg (by rw [hs1]; decide) ?_
    refine k_pos hs1 ?_
    refine k_steps HG 3 (zB_iff.mpr (?_ : G m _ (53, [(0, .inl (.ref q0)), (1, .inl (.long b1))], [.inl (.long (Int32.toInt64 (Int64.toInt32 b1)))], h, 0, 0)))
    exact k_retl HG rfl rfl (fun e1 e2 => hR _ e1 e2)
  · show G m _ (70, [(0, .inl (.ref q0)), (1, .inl (.long b1))], [], h, 0, 0)
    have hs1 : (hv h q0 0) = (3 : Int32) := k_sw hs1 rfl
    refine k_neg (by rw [hs1]; decide) ?_
    refine k_neg (by rw [hs1]; decide) ?_
    refine k_neg (by rw [hs1]; decide) ?_
    refine k_pos hs1 ?_
    refine k_steps HG 1 (zB_iff.mpr (?_ : G m _ (71, [(0, .inl (.ref q0)), (1, .inl (.long b1))], [.inl (.long b1)], h, 0, 0)))
    exact k_retl HG rfl rfl (fun e1 e2 => hR _ e1 e2)
  · show G m _ (54, [(0, .inl (.ref q0)), (1, .inl (.long b1))], [], h, 0, 0)
    have hs1 : (hv h q0 0) = (4 : Int32) := k_sw hs1 rfl
    refine k_neg (by rw [hs1]; decide) ?_
    refine k_neg (by rw [hs1]; decide) ?_
    refine k_neg (by rw [hs1]; decide) ?_
    refine k_neg (by rw [hs1]; decide) ?_
    refine k_pos hs1 ?_
    refine k_steps HG 4 (t_and2 (zisI_lcmp b1 (0 : Int64)) (kl_eq (x := b1) (y := (0 : Int64)) ?_ ?_))
    · show G m _ (64, [(0, .inl (.ref q0)), (1, .inl (.long b1))], [], h, 0, 0)
      refine k_steps HG 1 (zB_iff.mpr (?_ : G m _ (65, [(0, .inl (.ref q0)), (1, .inl (.long b1))], [.inl (.int (0 : Int32))], h, 0, 0)))
      refine k_cSI HG (E' := ze_X4_asNumber) (Or.inr rfl) hsc rfl rfl rfl rfl (fun hh => x_X4_asNumber hsc hh) (fun y2 => (?_ : G m _ (68, [(0, .inl (.ref q0)), (1, .inl (.long b1))], [.inl (.int y2)], h, 0, 0)))
      refine k_steps HG 1 (zB_iff.mpr (?_ : G m _ (69, [(0, .inl (.ref q0)), (1, .inl (.long b1))], [.inl (.long (Int32.toInt64 y2))], h, 0, 0)))
      exact k_retl HG rfl rfl (fun e1 e2 => hR _ e1 e2)
    · show G m _ (60, [(0, .inl (.ref q0)), (1, .inl (.long b1))], [], h, 0, 0)
      refine k_steps HG 2 (zB_iff.mpr (?_ : G m _ (65, [(0, .inl (.ref q0)), (1, .inl (.long b1))], [.inl (.int (1 : Int32))], h, 0, 0)))
      refine k_cSI HG (E' := ze_X4_asNumber) (Or.inr rfl) hsc rfl rfl rfl rfl (fun hh => x_X4_asNumber hsc hh) (fun y3 => (?_ : G m _ (68, [(0, .inl (.ref q0)), (1, .inl (.long b1))], [.inl (.int y3)], h, 0, 0)))
      refine k_steps HG 1 (zB_iff.mpr (?_ : G m _ (69, [(0, .inl (.ref q0)), (1, .inl (.long b1))], [.inl (.long (Int32.toInt64 y3))], h, 0, 0)))
      exact k_retl HG rfl rfl (fun e1 e2 => hR _ e1 e2)
noncomputable def F_X1_countIn (h : zH) (q0 : Nat) : Int32 := (letf (F_J13_bitCount_95d88 (hJ h q0 7)) (fun y1 => y1))
theorem x_X1_countIn {scr : List zV} {T : List Nat} {h : zH} {q0 : Nat} (hsc : cT scr) (K : hOK kty T h) (hq_q0 : T[q0]? = some 1) (hh : cH h) : xI scr 36 [.inl (.ref q0)] h (F_X1_countIn h q0) := by
  refine xI_intro (E := ze_X1_countIn) hsc rfl (cTb_ok rfl) hh (fun d r h' G HG Pf hR m => ?_)
  have K := kOK_refl (W := []) K
  unfold F_X1_countIn
  show G m _ (0, [(0, .inl (.ref q0))], [], h, 0, 0)
  refine k_steps HG 1 (zB_iff.mpr (?_ : G m _ (1, [(0, .inl (.ref q0))], [.inl (.ref q0)], h, 0, 0)))
  refine k_getJ HG rfl K hq_q0 rfl (Nat.le_of_ble_eq_true rfl) rfl (?_ : G m _ (4, [(0, .inl (.ref q0))], [.inl (.long (hJ h q0 7))], h, 0, 0))
  refine k_cSI HG (E' := ze_J13_bitCount_95d88) (Or.inl rfl) hsc rfl rfl rfl rfl (fun hh => x_J13_bitCount_95d88 hsc hh) (fun y1 => (?_ : G m _ (7, [(0, .inl (.ref q0))], [.inl (.int y1)], h, 0, 0)))
  exact k_reti HG rfl rfl (fun e1 e2 => hR _ e1 e2)
noncomputable def F_X1_goesToWait (h : zH) (q0 : Nat) (a1 : Int32) : Int32 := (letf (F_X1_isThing h q0 a1) (fun y1 => (if y1 = (0 : Int32) then (0 : Int32) else (jmax (0 : Int32) (((2 : Int32) * (hv h (hr h q0 11) a1.toNatClampNeg)) - (hv h q0 4))))))
theorem x_X1_goesToWait {scr : List zV} {T : List Nat} {h : zH} {q0 : Nat} {a1 : Int32} (hsc : cT scr) (K : hOK kty T h) (hq_q0 : T[q0]? = some 1) (hh : cH h) : xI scr 40 [.inl (.ref q0), .inl (.int a1)] h (F_X1_goesToWait h q0 a1) := by
  refine xI_intro (E := ze_X1_goesToWait) hsc rfl (cTb_ok rfl) hh (fun d r h' G HG Pf hR m => ?_)
  have K := kOK_refl (W := []) K
  unfold F_X1_goesToWait
  show G m _ (0, [(0, .inl (.ref q0)), (1, .inl (.int a1))], [], h, 0, 0)
  refine k_steps HG 2 (zB_iff.mpr (?_ : G m _ (2, [(0, .inl (.ref q0)), (1, .inl (.int a1))], [.inl (.int a1), .inl (.ref q0)], h, 0, 0)))
  refine k_cVI HG (E' := ze_X1_isThing) (Or.inl ⟨rfl, rfl⟩) hsc rfl rfl rfl rfl rfl (fun hh => x_X1_isThing hsc K.1 hq_q0 hh) (fun y1 => (?_ : G m _ (5, [(0, .inl (.ref q0)), (1, .inl (.int a1))], [.inl (.int y1)], h, 0, 0)))
  refine k_steps HG 1 (kb_eq (x := y1) (y := (0 : Int32)) ?_ ?_)
  · show G m _ (28, [(0, .inl (.ref q0)), (1, .inl (.int a1))], [], h, 0, 0)
    refine k_steps HG 1 (zB_iff.mpr (?_ : G m _ (29, [(0, .inl (.ref q0)), (1, .inl (.int a1))], [.inl (.int (0 : Int32))], h, 0, 0)))
    exact k_reti HG rfl rfl (fun e1 e2 => hR _ e1 e2)
  · show G m _ (8, [(0, .inl (.ref q0)), (1, .inl (.int a1))], [], h, 0, 0)
    refine k_steps HG 3 (zB_iff.mpr (?_ : G m _ (11, [(0, .inl (.ref q0)), (1, .inl (.int a1))], [.inl (.ref q0), .inl (.int (2 : Int32)), .inl (.int (0 : Int32))], h, 0, 0)))
    refine k_getR HG rfl K hq_q0 rfl (Nat.le_of_ble_eq_true rfl) rfl rfl (fun t2 => (?_ : G m _ (14, [(0, .inl (.ref q0)), (1, .inl (.int a1))], [.inl (.ref (hr h q0 11)), .inl (.int (2 : Int32)), .inl (.int (0 : Int32))], h, 0, 0)))
    refine k_steps HG 1 (zB_iff.mpr (?_ : G m _ (15, [(0, .inl (.ref q0)), (1, .inl (.int a1))], [.inl (.int a1), .inl (.ref (hr h q0 11)), .inl (.int (2 : Int32)), .inl (.int (0 : Int32))], h, 0, 0)))
    refine k_iald HG rfl K t2 rfl (fun _ => rfl) (?_ : G m _ (16, [(0, .inl (.ref q0)), (1, .inl (.int a1))], [.inl (.int (hv h (hr h q0 11) a1.toNatClampNeg)), .inl (.int (2 : Int32)), .inl (.int (0 : Int32))], h, 0, 0))
    refine k_steps HG 2 (zB_iff.mpr (?_ : G m _ (18, [(0, .inl (.ref q0)), (1, .inl (.int a1))], [.inl (.ref q0), .inl (.int ((2 : Int32) * (hv h (hr h q0 11) a1.toNatClampNeg))), .inl (.int (0 : Int32))], h, 0, 0)))
    refine k_getI HG rfl K hq_q0 rfl (Nat.le_of_ble_eq_true rfl) rfl (?_ : G m _ (21, [(0, .inl (.ref q0)), (1, .inl (.int a1))], [.inl (.int (hv h q0 4)), .inl (.int ((2 : Int32) * (hv h (hr h q0 11) a1.toNatClampNeg))), .inl (.int (0 : Int32))], h, 0, 0))
    refine k_steps HG 3 (zB_iff.mpr (?_ : G m _ (29, [(0, .inl (.ref q0)), (1, .inl (.int a1))], [.inl (.int (jmax (0 : Int32) (((2 : Int32) * (hv h (hr h q0 11) a1.toNatClampNeg)) - (hv h q0 4))))], h, 0, 0)))
    exact k_reti HG rfl rfl (fun e1 e2 => hR _ e1 e2)
noncomputable def F_X1_liking (h : zH) (q0 : Nat) (a1 : Int32) (a2 : Int32) : Int32 := (letf (F_X1_isBuyer h q0 a1) (fun y1 => (if y1 = (0 : Int32) then (0 : Int32) else (letf (F_X1_isThing h q0 a2) (fun y2 => (if y2 = (0 : Int32) then (0 : Int32) else (hv h (hr h q0 16) ((a1 * (8 : Int32)) + a2).toNatClampNeg)))))))
theorem x_X1_liking {scr : List zV} {T : List Nat} {h : zH} {q0 : Nat} {a1 : Int32} {a2 : Int32} (hsc : cT scr) (K : hOK kty T h) (hq_q0 : T[q0]? = some 1) (hh : cH h) : xI scr 42 [.inl (.ref q0), .inl (.int a1), .inl (.int a2)] h (F_X1_liking h q0 a1 a2) := by
  refine xI_intro (E := ze_X1_liking) hsc rfl (cTb_ok rfl) hh (fun d r h' G HG Pf hR m => ?_)
  have K := kOK_refl (W := []) K
  unfold F_X1_liking
  show G m _ (0, [(0, .inl (.ref q0)), (1, .inl (.int a1)), (2, .inl (.int a2))], [], h, 0, 0)
  refine k_steps HG 2 (zB_iff.mpr (?_ : G m _ (2, [(0, .inl (.ref q0)), (1, .inl (.int a1)), (2, .inl (.int a2))], [.inl (.int a1), .inl (.ref q0)], h, 0, 0)))
  refine k_cVI HG (E' := ze_X1_isBuyer) (Or.inl ⟨rfl, rfl⟩) hsc rfl rfl rfl rfl rfl (fun hh => x_X1_isBuyer hsc K.1 hq_q0 hh) (fun y1 => (?_ : G m _ (5, [(0, .inl (.ref q0)), (1, .inl (.int a1)), (2, .inl (.int a2))], [.inl (.int y1)], h, 0, 0)))
  refine k_steps HG 1 (kb_eq (x := y1) (y := (0 : Int32)) ?_ ?_)
  · show G m _ (30, [(0, .inl (.ref q0)), (1, .inl (.int a1)), (2, .inl (.int a2))], [], h, 0, 0)
    refine k_steps HG 1 (zB_iff.mpr (?_ : G m _ (31, [(0, .inl (.ref q0)), (1, .inl (.int a1)), (2, .inl (.int a2))], [.inl (.int (0 : Int32))], h, 0, 0)))
    exact k_reti HG rfl rfl (fun e1 e2 => hR _ e1 e2)
  · show G m _ (8, [(0, .inl (.ref q0)), (1, .inl (.int a1)), (2, .inl (.int a2))], [], h, 0, 0)
    refine k_steps HG 2 (zB_iff.mpr (?_ : G m _ (10, [(0, .inl (.ref q0)), (1, .inl (.int a1)), (2, .inl (.int a2))], [.inl (.int a2), .inl (.ref q0)], h, 0, 0)))
    refine k_cVI HG (E' := ze_X1_isThing) (Or.inl ⟨rfl, rfl⟩) hsc rfl rfl rfl rfl rfl (fun hh => x_X1_isThing hsc K.1 hq_q0 hh) (fun y2 => (?_ : G m _ (13, [(0, .inl (.ref q0)), (1, .inl (.int a1)), (2, .inl (.int a2))], [.inl (.int y2)], h, 0, 0)))
    refine k_steps HG 1 (kb_eq (x := y2) (y := (0 : Int32)) ?_ ?_)
    · show G m _ (30, [(0, .inl (.ref q0)), (1, .inl (.int a1)), (2, .inl (.int a2))], [], h, 0, 0)
      refine k_steps HG 1 (zB_iff.mpr (?_ : G m _ (31, [(0, .inl (.ref q0)), (1, .inl (.int a1)), (2, .inl (.int a2))], [.inl (.int (0 : Int32))], h, 0, 0)))
      exact k_reti HG rfl rfl (fun e1 e2 => hR _ e1 e2)
    · show G m _ (16, [(0, .inl (.ref q0)), (1, .inl (.int a1)), (2, .inl (.int a2))], [], h, 0, 0)
      refine k_steps HG 1 (zB_iff.mpr (?_ : G m _ (17, [(0, .inl (.ref q0)), (1, .inl (.int a1)), (2, .inl (.int a2))], [.inl (.ref q0)], h, 0, 0)))
      refine k_getR HG rfl K hq_q0 rfl (Nat.le_of_ble_eq_true rfl) rfl rfl (fun t3 => (?_ : G m _ (20, [(0, .inl (.ref q0)), (1, .inl (.int a1)), (2, .inl (.int a2))], [.inl (.ref (hr h q0 16))], h, 0, 0)))
      refine k_steps HG 5 (zB_iff.mpr (?_ : G m _ (26, [(0, .inl (.ref q0)), (1, .inl (.int a1)), (2, .inl (.int a2))], [.inl (.int ((a1 * (8 : Int32)) + a2)), .inl (.ref (hr h q0 16))], h, 0, 0)))
      refine k_iald HG rfl K t3 rfl (fun _ => rfl) (?_ : G m _ (27, [(0, .inl (.ref q0)), (1, .inl (.int a1)), (2, .inl (.int a2))], [.inl (.int (hv h (hr h q0 16) ((a1 * (8 : Int32)) + a2).toNatClampNeg))], h, 0, 0))
      refine k_steps HG 1 (zB_iff.mpr (?_ : G m _ (31, [(0, .inl (.ref q0)), (1, .inl (.int a1)), (2, .inl (.int a2))], [.inl (.int (hv h (hr h q0 16) ((a1 * (8 : Int32)) + a2).toNatClampNeg))], h, 0, 0)))
      exact k_reti HG rfl rfl (fun e1 e2 => hR _ e1 e2)
def W_X1_pay : List (Nat × Nat) := [(1, 5), (16, 1000)]
noncomputable def F_X1_pay (h : zH) (q0 : Nat) (a1 : Int32) (a2 : Int32) : zH := (letf (F_X1_isBuyer h q0 a1) (fun y1 => (if y1 = (0 : Int32) then h else (letf (hput h (hr h q0 15) a1.toNatClampNeg (.inl (.int ((hv h (hr h q0 15) a1.toNatClampNeg) - a2)))) (fun h3 => (letf (hput h3 q0 5 (.inl (.int ((hv h3 q0 5) + a2)))) (fun h4 => h4)))))))
theorem x_X1_pay {scr : List zV} {T : List Nat} {h : zH} {q0 : Nat} {a1 : Int32} {a2 : Int32} (hsc : cT scr) (K : hOK kty T h) (hq_q0 : T[q0]? = some 1) (hh : cH h) : xH scr W_X1_pay T T 45 [.inl (.ref q0), .inl (.int a1), .inl (.int a2)] h (F_X1_pay h q0 a1 a2) := by
  refine xH_intro (E := ze_X1_pay) hsc rfl (cTb_ok rfl) hh (fun d r h' G HG Pf hR m => ?_)
  have K := kOK_refl (W := W_X1_pay) K
  unfold F_X1_pay
  show G m _ (0, [(0, .inl (.ref q0)), (1, .inl (.int a1)), (2, .inl (.int a2))], [], h, 0, 0)
  refine k_steps HG 2 (zB_iff.mpr (?_ : G m _ (2, [(0, .inl (.ref q0)), (1, .inl (.int a1)), (2, .inl (.int a2))], [.inl (.int a1), .inl (.ref q0)], h, 0, 0)))
  refine k_cVI HG (E' := ze_X1_isBuyer) (Or.inl ⟨rfl, rfl⟩) hsc rfl rfl rfl rfl rfl (fun hh => x_X1_isBuyer hsc K.1 hq_q0 hh) (fun y1 => (?_ : G m _ (5, [(0, .inl (.ref q0)), (1, .inl (.int a1)), (2, .inl (.int a2))], [.inl (.int y1)], h, 0, 0)))
  refine k_steps HG 1 (kb_eq (x := y1) (y := (0 : Int32)) ?_ ?_)
  · show G m _ (28, [(0, .inl (.ref q0)), (1, .inl (.int a1)), (2, .inl (.int a2))], [], h, 0, 0)
    exact k_retv HG rfl rfl (fun e1 e2 => hR _ e1 e2 K)
  · show G m _ (8, [(0, .inl (.ref q0)), (1, .inl (.int a1)), (2, .inl (.int a2))], [], h, 0, 0)
    refine k_steps HG 1 (zB_iff.mpr (?_ : G m _ (9, [(0, .inl (.ref q0)), (1, .inl (.int a1)), (2, .inl (.int a2))], [.inl (.ref q0)], h, 0, 0)))
    refine k_getR HG rfl K hq_q0 rfl (Nat.le_of_ble_eq_true rfl) rfl rfl (fun t2 => (?_ : G m _ (12, [(0, .inl (.ref q0)), (1, .inl (.int a1)), (2, .inl (.int a2))], [.inl (.ref (hr h q0 15))], h, 0, 0)))
    refine k_steps HG 2 (zB_iff.mpr (?_ : G m _ (14, [(0, .inl (.ref q0)), (1, .inl (.int a1)), (2, .inl (.int a2))], [.inl (.int a1), .inl (.ref (hr h q0 15)), .inl (.int a1), .inl (.ref (hr h q0 15))], h, 0, 0)))
    refine k_iald HG rfl K t2 rfl (fun _ => rfl) (?_ : G m _ (15, [(0, .inl (.ref q0)), (1, .inl (.int a1)), (2, .inl (.int a2))], [.inl (.int (hv h (hr h q0 15) a1.toNatClampNeg)), .inl (.int a1), .inl (.ref (hr h q0 15))], h, 0, 0))
    refine k_steps HG 2 (zB_iff.mpr (?_ : G m _ (17, [(0, .inl (.ref q0)), (1, .inl (.int a1)), (2, .inl (.int a2))], [.inl (.int ((hv h (hr h q0 15) a1.toNatClampNeg) - a2)), .inl (.int a1), .inl (.ref (hr h q0 15))], h, 0, 0)))
    refine k_iast HG rfl K t2 rfl (fun _ => rfl) rfl (fun h3 K3 => (?_ : G m _ (18, [(0, .inl (.ref q0)), (1, .inl (.int a1)), (2, .inl (.int a2))], [], h3, 0, 0)))
    refine k_steps HG 2 (zB_iff.mpr (?_ : G m _ (20, [(0, .inl (.ref q0)), (1, .inl (.int a1)), (2, .inl (.int a2))], [.inl (.ref q0), .inl (.ref q0)], h3, 0, 0)))
    refine k_getI HG rfl K3 hq_q0 rfl (Nat.le_of_ble_eq_true rfl) rfl (?_ : G m _ (23, [(0, .inl (.ref q0)), (1, .inl (.int a1)), (2, .inl (.int a2))], [.inl (.int (hv h3 q0 5)), .inl (.ref q0)], h3, 0, 0))
    refine k_steps HG 2 (zB_iff.mpr (?_ : G m _ (25, [(0, .inl (.ref q0)), (1, .inl (.int a1)), (2, .inl (.int a2))], [.inl (.int ((hv h3 q0 5) + a2)), .inl (.ref q0)], h3, 0, 0)))
    refine k_putI HG rfl K3 hq_q0 rfl rfl rfl (fun h4 K4 => (?_ : G m _ (28, [(0, .inl (.ref q0)), (1, .inl (.int a1)), (2, .inl (.int a2))], [], h4, 0, 0)))
    exact k_retv HG rfl rfl (fun e1 e2 => hR _ e1 e2 K4)
def W_X1_putLiking : List (Nat × Nat) := [(17, 1000)]
noncomputable def F_X1_putLiking (h : zH) (q0 : Nat) (a1 : Int32) (a2 : Int32) (a3 : Int32) : zH := (letf (F_X1_isBuyer h q0 a1) (fun y1 => (if y1 = (0 : Int32) then h else (letf (F_X1_isThing h q0 a2) (fun y2 => (if y2 = (0 : Int32) then h else (letf (hput h (hr h q0 16) ((a1 * (8 : Int32)) + a2).toNatClampNeg (.inl (.int a3))) (fun h4 => h4))))))))
theorem x_X1_putLiking {scr : List zV} {T : List Nat} {h : zH} {q0 : Nat} {a1 : Int32} {a2 : Int32} {a3 : Int32} (hsc : cT scr) (K : hOK kty T h) (hq_q0 : T[q0]? = some 1) (hh : cH h) : xH scr W_X1_putLiking T T 47 [.inl (.ref q0), .inl (.int a1), .inl (.int a2), .inl (.int a3)] h (F_X1_putLiking h q0 a1 a2 a3) := by
  refine xH_intro (E := ze_X1_putLiking) hsc rfl (cTb_ok rfl) hh (fun d r h' G HG Pf hR m => ?_)
  have K := kOK_refl (W := W_X1_putLiking) K
  unfold F_X1_putLiking
  show G m _ (0, [(0, .inl (.ref q0)), (1, .inl (.int a1)), (2, .inl (.int a2)), (3, .inl (.int a3))], [], h, 0, 0)
  refine k_steps HG 2 (zB_iff.mpr (?_ : G m _ (2, [(0, .inl (.ref q0)), (1, .inl (.int a1)), (2, .inl (.int a2)), (3, .inl (.int a3))], [.inl (.int a1), .inl (.ref q0)], h, 0, 0)))
  refine k_cVI HG (E' := ze_X1_isBuyer) (Or.inl ⟨rfl, rfl⟩) hsc rfl rfl rfl rfl rfl (fun hh => x_X1_isBuyer hsc K.1 hq_q0 hh) (fun y1 => (?_ : G m _ (5, [(0, .inl (.ref q0)), (1, .inl (.int a1)), (2, .inl (.int a2)), (3, .inl (.int a3))], [.inl (.int y1)], h, 0, 0)))
  refine k_steps HG 1 (kb_eq (x := y1) (y := (0 : Int32)) ?_ ?_)
  · show G m _ (28, [(0, .inl (.ref q0)), (1, .inl (.int a1)), (2, .inl (.int a2)), (3, .inl (.int a3))], [], h, 0, 0)
    exact k_retv HG rfl rfl (fun e1 e2 => hR _ e1 e2 K)
  · show G m _ (8, [(0, .inl (.ref q0)), (1, .inl (.int a1)), (2, .inl (.int a2)), (3, .inl (.int a3))], [], h, 0, 0)
    refine k_steps HG 2 (zB_iff.mpr (?_ : G m _ (10, [(0, .inl (.ref q0)), (1, .inl (.int a1)), (2, .inl (.int a2)), (3, .inl (.int a3))], [.inl (.int a2), .inl (.ref q0)], h, 0, 0)))
    refine k_cVI HG (E' := ze_X1_isThing) (Or.inl ⟨rfl, rfl⟩) hsc rfl rfl rfl rfl rfl (fun hh => x_X1_isThing hsc K.1 hq_q0 hh) (fun y2 => (?_ : G m _ (13, [(0, .inl (.ref q0)), (1, .inl (.int a1)), (2, .inl (.int a2)), (3, .inl (.int a3))], [.inl (.int y2)], h, 0, 0)))
    refine k_steps HG 1 (kb_eq (x := y2) (y := (0 : Int32)) ?_ ?_)
    · show G m _ (28, [(0, .inl (.ref q0)), (1, .inl (.int a1)), (2, .inl (.int a2)), (3, .inl (.int a3))], [], h, 0, 0)
      exact k_retv HG rfl rfl (fun e1 e2 => hR _ e1 e2 K)
    · show G m _ (16, [(0, .inl (.ref q0)), (1, .inl (.int a1)), (2, .inl (.int a2)), (3, .inl (.int a3))], [], h, 0, 0)
      refine k_steps HG 1 (zB_iff.mpr (?_ : G m _ (17, [(0, .inl (.ref q0)), (1, .inl (.int a1)), (2, .inl (.int a2)), (3, .inl (.int a3))], [.inl (.ref q0)], h, 0, 0)))
      refine k_getR HG rfl K hq_q0 rfl (Nat.le_of_ble_eq_true rfl) rfl rfl (fun t3 => (?_ : G m _ (20, [(0, .inl (.ref q0)), (1, .inl (.int a1)), (2, .inl (.int a2)), (3, .inl (.int a3))], [.inl (.ref (hr h q0 16))], h, 0, 0)))
      refine k_steps HG 6 (zB_iff.mpr (?_ : G m _ (27, [(0, .inl (.ref q0)), (1, .inl (.int a1)), (2, .inl (.int a2)), (3, .inl (.int a3))], [.inl (.int a3), .inl (.int ((a1 * (8 : Int32)) + a2)), .inl (.ref (hr h q0 16))], h, 0, 0)))
      refine k_iast HG rfl K t3 rfl (fun _ => rfl) rfl (fun h4 K4 => (?_ : G m _ (28, [(0, .inl (.ref q0)), (1, .inl (.int a1)), (2, .inl (.int a2)), (3, .inl (.int a3))], [], h4, 0, 0)))
      exact k_retv HG rfl rfl (fun e1 e2 => hR _ e1 e2 K4)
def W_X1_putSlips : List (Nat × Nat) := [(1, 0), (1, 7)]
noncomputable def F_X1_putSlips (h : zH) (q0 : Nat) (a1 : Int32) : zH := (letf (hput h q0 0 (.inl (.int a1))) (fun h1 => (letf (F_X1_putAllIn h1 q0) (fun h2 => h2))))
theorem x_X1_putSlips {scr : List zV} {T : List Nat} {h : zH} {q0 : Nat} {a1 : Int32} (hsc : cT scr) (K : hOK kty T h) (hq_q0 : T[q0]? = some 1) (hh : cH h) : xH scr W_X1_putSlips T T 48 [.inl (.ref q0), .inl (.int a1)] h (F_X1_putSlips h q0 a1) := by
  refine xH_intro (E := ze_X1_putSlips) hsc rfl (cTb_ok rfl) hh (fun d r h' G HG Pf hR m => ?_)
  have K := kOK_refl (W := W_X1_putSlips) K
  unfold F_X1_putSlips
  show G m _ (0, [(0, .inl (.ref q0)), (1, .inl (.int a1))], [], h, 0, 0)
  refine k_steps HG 2 (zB_iff.mpr (?_ : G m _ (2, [(0, .inl (.ref q0)), (1, .inl (.int a1))], [.inl (.int a1), .inl (.ref q0)], h, 0, 0)))
  refine k_putI HG rfl K hq_q0 rfl rfl rfl (fun h1 K1 => (?_ : G m _ (5, [(0, .inl (.ref q0)), (1, .inl (.int a1))], [], h1, 0, 0)))
  refine k_steps HG 1 (zB_iff.mpr (?_ : G m _ (6, [(0, .inl (.ref q0)), (1, .inl (.int a1))], [.inl (.ref q0)], h1, 0, 0)))
  refine k_cVH HG (E' := ze_X1_putAllIn) (Or.inl ⟨rfl, rfl⟩) hsc rfl rfl rfl rfl rfl K1 rfl (fun hh => x_X1_putAllIn hsc K1.1 hq_q0 hh) (fun h2 K2 => (?_ : G m _ (9, [(0, .inl (.ref q0)), (1, .inl (.int a1))], [], h2, 0, 0)))
  exact k_retv HG rfl rfl (fun e1 e2 => hR _ e1 e2 K2)
noncomputable def F_X1_standing (h : zH) (q0 : Nat) : Int32 := (letf (F_X1_thingsOwnedBy h q0 (-1 : Int32)) (fun y1 => y1))
theorem x_X1_standing {scr : List zV} {T : List Nat} {h : zH} {q0 : Nat} (hsc : cT scr) (K : hOK kty T h) (hq_q0 : T[q0]? = some 1) (hh : cH h) : xI scr 52 [.inl (.ref q0)] h (F_X1_standing h q0) := by
  refine xI_intro (E := ze_X1_standing) hsc rfl (cTb_ok rfl) hh (fun d r h' G HG Pf hR m => ?_)
  have K := kOK_refl (W := []) K
  unfold F_X1_standing
  show G m _ (0, [(0, .inl (.ref q0))], [], h, 0, 0)
  refine k_steps HG 2 (zB_iff.mpr (?_ : G m _ (2, [(0, .inl (.ref q0))], [.inl (.int (-1 : Int32)), .inl (.ref q0)], h, 0, 0)))
  refine k_cVI HG (E' := ze_X1_thingsOwnedBy) (Or.inl ⟨rfl, rfl⟩) hsc rfl rfl rfl rfl rfl (fun hh => x_X1_thingsOwnedBy hsc K.1 hq_q0 hh) (fun y1 => (?_ : G m _ (5, [(0, .inl (.ref q0))], [.inl (.int y1)], h, 0, 0)))
  exact k_reti HG rfl rfl (fun e1 e2 => hR _ e1 e2)
noncomputable def F_X1_stands (h : zH) (q0 : Nat) (a1 : Int32) : Int32 := (letf (F_X1_isThing h q0 a1) (fun y1 => (if y1 = (0 : Int32) then (0 : Int32) else (if (hv h (hr h q0 13) a1.toNatClampNeg) = (-1 : Int32) then (1 : Int32) else (0 : Int32)))))
theorem x_X1_stands {scr : List zV} {T : List Nat} {h : zH} {q0 : Nat} {a1 : Int32} (hsc : cT scr) (K : hOK kty T h) (hq_q0 : T[q0]? = some 1) (hh : cH h) : xI scr 53 [.inl (.ref q0), .inl (.int a1)] h (F_X1_stands h q0 a1) := by
  refine xI_intro (E := ze_X1_stands) hsc rfl (cTb_ok rfl) hh (fun d r h' G HG Pf hR m => ?_)
  have K := kOK_refl (W := []) K
  unfold F_X1_stands
  show G m _ (0, [(0, .inl (.ref q0)), (1, .inl (.int a1))], [], h, 0, 0)
  refine k_steps HG 2 (zB_iff.mpr (?_ : G m _ (2, [(0, .inl (.ref q0)), (1, .inl (.int a1))], [.inl (.int a1), .inl (.ref q0)], h, 0, 0)))
  refine k_cVI HG (E' := ze_X1_isThing) (Or.inl ⟨rfl, rfl⟩) hsc rfl rfl rfl rfl rfl (fun hh => x_X1_isThing hsc K.1 hq_q0 hh) (fun y1 => (?_ : G m _ (5, [(0, .inl (.ref q0)), (1, .inl (.int a1))], [.inl (.int y1)], h, 0, 0)))
  refine k_steps HG 1 (kb_eq (x := y1) (y := (0 : Int32)) ?_ ?_)
  · show G m _ (22, [(0, .inl (.ref q0)), (1, .inl (.int a1))], [], h, 0, 0)
    refine k_steps HG 1 (zB_iff.mpr (?_ : G m _ (23, [(0, .inl (.ref q0)), (1, .inl (.int a1))], [.inl (.int (0 : Int32))], h, 0, 0)))
    exact k_retz HG rfl rfl (fun e1 e2 => hR _ e1 e2)
  · show G m _ (8, [(0, .inl (.ref q0)), (1, .inl (.int a1))], [], h, 0, 0)
    refine k_steps HG 1 (zB_iff.mpr (?_ : G m _ (9, [(0, .inl (.ref q0)), (1, .inl (.int a1))], [.inl (.ref q0)], h, 0, 0)))
    refine k_getR HG rfl K hq_q0 rfl (Nat.le_of_ble_eq_true rfl) rfl rfl (fun t2 => (?_ : G m _ (12, [(0, .inl (.ref q0)), (1, .inl (.int a1))], [.inl (.ref (hr h q0 13))], h, 0, 0)))
    refine k_steps HG 1 (zB_iff.mpr (?_ : G m _ (13, [(0, .inl (.ref q0)), (1, .inl (.int a1))], [.inl (.int a1), .inl (.ref (hr h q0 13))], h, 0, 0)))
    refine k_iald HG rfl K t2 rfl (fun _ => rfl) (?_ : G m _ (14, [(0, .inl (.ref q0)), (1, .inl (.int a1))], [.inl (.int (hv h (hr h q0 13) a1.toNatClampNeg))], h, 0, 0))
    refine k_steps HG 2 (kb_ne (x := (hv h (hr h q0 13) a1.toNatClampNeg)) (y := (-1 : Int32)) ?_ ?_)
    · show G m _ (22, [(0, .inl (.ref q0)), (1, .inl (.int a1))], [], h, 0, 0)
      refine k_steps HG 1 (zB_iff.mpr (?_ : G m _ (23, [(0, .inl (.ref q0)), (1, .inl (.int a1))], [.inl (.int (0 : Int32))], h, 0, 0)))
      exact k_retz HG rfl rfl (fun e1 e2 => hR _ e1 e2)
    · show G m _ (18, [(0, .inl (.ref q0)), (1, .inl (.int a1))], [], h, 0, 0)
      refine k_steps HG 2 (zB_iff.mpr (?_ : G m _ (23, [(0, .inl (.ref q0)), (1, .inl (.int a1))], [.inl (.int (1 : Int32))], h, 0, 0)))
      exact k_retz HG rfl rfl (fun e1 e2 => hR _ e1 e2)
