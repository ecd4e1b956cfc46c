def vCells (n : Nat) : List zC := (13, (List.range 62).map (fun i => .inl (.ref (n + 1 + i)))) :: List.replicate 62 (11, List.replicate 256 (.inl (.long 0)))
def hV (h : zH) (q : Nat) : zH := hput (h ++ vCells h.length) q 35 (.inl (.ref h.length))
theorem okCs_repk {T : List Nat} {τ : Nat} {c : zC} (hc : okC T τ c) : ∀ n : Nat, okCs T (List.replicate n τ) (List.replicate n c)
  | 0 => trivial
  | n + 1 => ⟨hc, okCs_repk hc n⟩
theorem vT_at (T : List Nat) {i : Nat} (hi : i < 62) : (T ++ vTys)[T.length + 1 + i]? = some 42 := by
  rw [List.getElem?_append_right (by omega), show T.length + 1 + i - T.length = i + 1 by omega]
  show (List.replicate 62 42)[i]? = some 42
  rw [List.getElem?_replicate_of_lt hi]
theorem vC_ok (T : List Nat) : okCs (T ++ vTys) vTys (vCells T.length) := by
  refine ⟨okC_refs (σ := 42) rfl rfl (fun _ => rfl) (fun i hi => vT_at T hi), okCs_repk (okC_rep rfl rfl (fun _ => ?_)) 62⟩
  exact ⟨0, rfl⟩
theorem hV_ok {T : List Nat} {h : zH} {q : Nat} {W : List (Nat × Nat)} (K : hOK kty T h) (hl : T.length ≤ 900000) (hq : T[q]? = some 5) (hw : wIn W 5 35 = true) : hOK kty (T ++ vTys) (h ++ vCells h.length) ∧ kOK W T (T ++ vTys) h (hV h q) ∧ kN (T ++ vTys) (hV h q) q 35 41 := by
  have el : (vCells h.length).length = 63 := by
    show (List.replicate 62 _).length + 1 = 63
    rw [List.length_replicate]
  have K1 : hOK kty (T ++ vTys) (h ++ vCells h.length) := hOK_appk K (by rw [el, K.1]; omega) (by rw [K.1]; exact vC_ok T)
  have hq1 := tExt_app T vTys _ _ hq
  have K2 : kOK W T (T ++ vTys) h (h ++ vCells h.length) := kOK_app K K1
  have K3 := hOK_put3 (i := 35) (v := .inl (.ref h.length)) K1 hq1 rfl
  refine ⟨K1, kOK_put K2 hq1 hw K3, ?_⟩
  have e := hput_at (i := 35) (v := .inl (.ref h.length)) K1 hq1 (Nat.le_of_ble_eq_true rfl)
  have e2 : hr (hV h q) q 35 = h.length := hr_of e
  refine ⟨by rw [e2]; exact e, ?_⟩
  rw [e2, K.1, List.getElem?_append_right (Nat.le_refl _), Nat.sub_self]
  rfl
theorem k_mnew {E : zE} {scr : List zV} {rc rs : Nat} {cc : zK} {r : Option zV} {h' : zH} {G : Nat → Prop → zS → Prop} {m : Nat} {P : Prop} {pc nc ns : Nat} {L : zL} {st : List zV} {h : zH} {cv : zV} {b c e9 ix dm : Nat} (HG : G = GL E scr rc rs cc r h') (hf : zft (zEd E) pc = some (.multianewarray ix dm, cv, 1, b, c, e9)) (kk : G m P (pc + 4, L, .inl (.ref h.length) :: st, h ++ vCells h.length, nc + 1 + 62, ns + 62 + 62 * 256)) : G m P (pc, L, .inl (.int 256) :: .inl (.int 62) :: st, h, nc, ns) := by
  refine k_lib HG hf rfl (fun _ hz => ?_)
  have hz : (if (62 : Int32) < 0 then false else if (256 : Int32) < 0 then false else Nat.ble (62 : Int32).toNatClampNeg 1000 && (Nat.ble (256 : Int32).toNatClampNeg 1000 && (Nat.ble (nc + 1 + (62 : Int32).toNatClampNeg) rc && (Nat.ble (ns + (62 : Int32).toNatClampNeg + (62 : Int32).toNatClampNeg * (256 : Int32).toNatClampNeg) rs && (Nat.blt (h.length + (62 : Int32).toNatClampNeg) 1000000 && true))))) = true := hz
  show (if (62 : Int32) < 0 then false else if (256 : Int32) < 0 then false else Nat.ble (62 : Int32).toNatClampNeg 1000 && (Nat.ble (256 : Int32).toNatClampNeg 1000 && (Nat.ble (nc + 1 + (62 : Int32).toNatClampNeg) rc && (Nat.ble (ns + (62 : Int32).toNatClampNeg + (62 : Int32).toNatClampNeg * (256 : Int32).toNatClampNeg) rs && (Nat.blt (h.length + (62 : Int32).toNatClampNeg) 1000000 && zB (G m P (pc + 4, L, .inl (.ref h.length) :: st, h ++ vCells h.length, nc + 1 + 62, ns + 62 + 62 * 256))))))) = true
  rw [if_neg (by decide), if_neg (by decide)] at hz ⊢
  obtain ⟨z1, hz⟩ := z_and hz
  obtain ⟨z2, hz⟩ := z_and hz
  obtain ⟨z3, hz⟩ := z_and hz
  obtain ⟨z4, hz⟩ := z_and hz
  obtain ⟨z5, -⟩ := z_and hz
  exact t_and2 z1 (t_and2 z2 (t_and2 z3 (t_and2 z4 (t_and2 z5 (zB_iff.mpr kk)))))
def W_X5_beginValuesB : List (Nat × Nat) := (5, 35) :: W_X5_beginValuesA
noncomputable def F_X5_beginValuesB (h : zH) (q0 : Nat) (a1 : Int32) (a2 : Int32) : zH := J_X5_beginValuesA_j20 (hV h q0) q0 a1 a2
theorem x_X5_beginValuesB {scr : List zV} {D : Nat} {T : List Nat} {h : zH} {q0 : Nat} {a1 a2 : Int32} (hsc : cT scr) (K : hOK kty T h) (hq_q0 : T[q0]? = some 5) (V_35 : hget h q0 35 = some (.inl .null)) (hh : cH h) (hlen : T.length ≤ 900000) : xHd scr W_X5_beginValuesB T (T ++ vTys) (fun v => kN (T ++ vTys) v q0 35 41) D 158 [.inl (.ref q0), .inl (.int a1), .inl (.int a2)] h (F_X5_beginValuesB h q0 a1 a2) := by
  cases D with
  | zero => exact fun _ _ hx => absurd hx (fun q => xD_zero q)
  | succ D =>
    refine xHd_intro (E := ze_X5_beginValues) hsc rfl (cTb_ok rfl) hh (fun r h' G HG Pf hR m => ?_)
    have K0 := kOK_refl (W := W_X5_beginValuesB) K
    unfold F_X5_beginValuesB
    show G m _ (0, [(0, .inl (.ref q0)), (1, .inl (.int a1)), (2, .inl (.int a2))], [], h, 0, 0)
    refine k_steps HG 1 (zB_iff.mpr (?_ : G m _ (1, [(0, .inl (.ref q0)), (1, .inl (.int a1)), (2, .inl (.int a2))], [.inl (.ref q0)], h, 0, 0)))
    refine k_get0 HG rfl K0 hq_q0 rfl V_35 (?_ : G m _ (4, [(0, .inl (.ref q0)), (1, .inl (.int a1)), (2, .inl (.int a2))], [.inl .null], h, 0, 0))
    refine k_steps HG 4 (zB_iff.mpr (?_ : G m _ (13, [(0, .inl (.ref q0)), (1, .inl (.int a1)), (2, .inl (.int a2))], [.inl (.int 256), .inl (.int 62), .inl (.ref q0)], h, 0, 0)))
    refine k_mnew HG rfl ?_
    obtain ⟨K1, K2, V2⟩ := hV_ok (W := W_X5_beginValuesB) K hlen hq_q0 rfl
    have hq1 := tExt_app T vTys _ _ hq_q0
    refine k_put0 HG rfl K1 hq1 rfl ?_
    exact w_X5_beginValuesA_j20 HG hsc (fun hh e1 e2 k q => hR hh e1 e2 (kOK_trans K2 rfl k) q) (kOK_refl K2.1) V2 hq1
