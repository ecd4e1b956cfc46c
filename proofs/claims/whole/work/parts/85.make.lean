theorem okCs_rep {T : List Nat} {τ : Nat} {c : zC} (h : okC T τ c) : ∀ n : Nat, okCs T (List.replicate n τ) (List.replicate n c)
  | 0 => trivial
  | n + 1 => ⟨h, okCs_rep h n⟩
def vTys : List Nat := 41 :: List.replicate 62 42
def vHp (h : zH) : zH := h ++ ((13, (List.range 62).map (fun i => .inl (.ref (h.length + 1 + i)))) :: List.replicate 62 (11, List.replicate 256 (.inl (.long 0))))
theorem vTy_at (T : List Nat) {k τ : Nat} (h : vTys[k]? = some τ) : (T ++ vTys)[T.length + k]? = some τ := by
  rw [List.getElem?_append_right (by omega), Nat.add_sub_cancel_left]
  exact h
theorem vTys_in {k τ : Nat} (h : vTys[k]? = some τ) : τ = 41 ∨ τ = 42 := by
  have hm := List.mem_of_getElem? h
  rcases List.mem_cons.mp hm with e | e
  · exact Or.inl e
  · exact Or.inr (List.eq_of_mem_replicate e)
theorem vals_ok {P : pP} {N : Nat} {T : List Nat} {h : zH} (ok : wOK (zPhi P) N T h) (hN : h.length + 63 ≤ N) (h6 : N ≤ 1000000) : wOK (zPhi P) N (T ++ vTys) (vHp h) ∧ (T ++ vTys)[h.length]? = some 41 ∧ (∀ p i : Nat, p < h.length → hget (vHp h) p i = hget h p i) := by
  have el : h.length = T.length := ok.1.1
  have old : ∀ p i : Nat, p < h.length → hget (vHp h) p i = hget h p i := fun p i hp => by
    unfold hget vHp
    rw [List.getElem?_append_left hp]
  have lt : ∀ p σ : Nat, T[p]? = some σ → p < h.length := fun p σ hp => by
    rw [el]
    exact (List.getElem?_eq_some_iff.mp hp).1
  have hlen : (vHp h).length = h.length + 63 := by
    unfold vHp
    rw [List.length_append, List.length_cons, List.length_replicate]
  have hk : hOK zty (T ++ vTys) (vHp h) := by
    refine hOK_app2 ok.1 (by rw [List.length_cons, List.length_replicate]; omega) ⟨okC_refs (b := h.length + 1) rfl rfl (fun _ => rfl) (fun i hi => ?_), okCs_rep (τ := 42) (c := (11, List.replicate 256 (.inl (.long 0)))) (okC_rep (τ := 42) (n := 256) (tag := 11) (v := .inl (.long 0)) rfl rfl (fun _ => (⟨0, rfl⟩ : ∃ x : Int64, (.inl (.long 0) : zV) = .inl (.long x)))) 62⟩
    have key : ∀ j, j < 62 → vTys[1 + j]? = some 42 := by decide
    rw [el, Nat.add_assoc]
    exact vTy_at T (key i hi)
  refine ⟨⟨hk, ?_, by rw [hlen]; exact hN⟩, by rw [el]; exact vTy_at T (k := 0) rfl, old⟩
  refine p_keep (tExt_app T vTys) (fun q τ hq hτ => ?_) (fun p σ i hp _ => old p i (lt p σ hp)) ok.2.1
  by_cases e : q < T.length
  · rw [List.getElem?_append_left e] at hq
    exact hq
  · rw [List.getElem?_append_right (by omega)] at hq
    rcases vTys_in hq with e2 | e2 <;> omega
theorem c_beginValuesN {n m : Int} {r : Option Int} {N : Nat} {scr : List zV} {d : Nat} {T : List Nat} {h : zH} {b g0 : Int32} {post : Option zV → zH → Bool} (ok : wOK (zPhi (n, m, r, true)) N T h) (hb : 0 ≤ b.toInt ∧ b.toInt ≤ 3) (hg : 0 ≤ g0.toInt ∧ g0.toInt ≤ 61)
    (kk : ∀ h' : zH, wOK (zPhi (n, m, r, true)) N T h' → bFr T h h' → hi h' 49 37 = hi h 49 13 → hi h' 49 38 = hins h 49 (hi h 49 9).toNat → (∀ w rw g s : Nat, g < 62 → s < 256 → hget h' 49 35 = some (.inl (.ref w)) → hget h' w g = some (.inl (.ref rw)) → hget h' rw s = some (.inl (.long (-1)))) → post none h' = true) : zD zprog scr (d + 2) 251 [.inl (.ref 49), .inl (.int b), .inl (.int g0)] h post = true := by
  refine zD_intro (E := ze_X5_beginValuesN) rfl rfl (fun G HW => ?_)
  have hq_q := ok.2.1.1.2.2.1
  obtain ⟨w, gw, tw⟩ : pRef T h 49 35 41 := ok.2.1.2.2.2.2.2.2.1 rfl
  refine zrn_ok HW 1 (zB_iff.mpr (?_ : G (1, [(0, .inl (.ref 49)), (1, .inl (.int b)), (2, .inl (.int g0))], [.inl (.ref 49)], h, 0, 0)))
  refine g_getf HW rfl ok.1 hq_q rfl gw ?_
  refine zrn_ok HW 1 (zB_iff.mpr ?_)
  exact c_X5_beginValuesN_20 HW (Nat.zero_le _) (Nat.zero_le _) ok hb hg kk
theorem c_beginValues {n m : Int} {r : Option Int} {v : Bool} {N : Nat} {scr : List zV} {d : Nat} {T : List Nat} {h : zH} {b g0 : Int32} {post : Option zV → zH → Bool} (ok : wOK (zPhi (n, m, r, v)) N T h) (hN : h.length + 63 ≤ N) (h6 : N ≤ 1000000) (hb : 0 ≤ b.toInt ∧ b.toInt ≤ 3) (hg : 0 ≤ g0.toInt ∧ g0.toInt ≤ 61)
    (kk : ∀ (T' : List Nat) (h' : zH), tExt T T' → wOK (zPhi (n, m, r, true)) N T' h' → bFr T h h' → hi h' 49 37 = hi h 49 13 → hi h' 49 38 = hins h 49 (hi h 49 9).toNat → (∀ w rw g s : Nat, g < 62 → s < 256 → hget h' 49 35 = some (.inl (.ref w)) → hget h' w g = some (.inl (.ref rw)) → hget h' rw s = some (.inl (.long (-1)))) → post none h' = true) : zD zprog scr (d + 2) 158 [.inl (.ref 49), .inl (.int b), .inl (.int g0)] h post = true := by
  refine zD_intro (E := ze_X5_beginValues) rfl rfl (fun G HW => ?_)
  have hq_q := ok.2.1.1.2.2.1
  have up : ∀ w : Nat, hget h 49 35 = some (.inl (.ref w)) → T[w]? = some 41 → wOK (zPhi (n, m, r, true)) N T h := fun w gw tw => by
    obtain ⟨c1, ⟨p1, p2, p3, p4, p5, p6, p7, p8⟩, c3⟩ := ok
    exact ⟨c1, ⟨p1, p2, p3, p4, p5, p6, fun _ => ⟨w, gw, tw⟩, p8⟩, c3⟩
  refine zrn_ok HW 1 (zB_iff.mpr (?_ : G (1, [(0, .inl (.ref 49)), (1, .inl (.int b)), (2, .inl (.int g0))], [.inl (.ref 49)], h, 0, 0)))
  rcases ok.2.1.2.2.2.2.2.2.2.2.2 with gn | ⟨w, gw, tw⟩
  · refine g_getf HW rfl ok.1 hq_q rfl gn ?_
    refine zrn_ok HW 4 (zB_iff.mpr (?_ : G (13, [(0, .inl (.ref 49)), (1, .inl (.int b)), (2, .inl (.int g0))], [.inl (.int (256 : Int32)), .inl (.int (62 : Int32)), .inl (.ref 49)], h, 0, 0)))
    obtain ⟨ok2, t41, old⟩ := vals_ok ok hN h6
    have hq2 : (T ++ vTys)[49]? = some 5 := tExt_app T vTys _ _ hq_q
    have lt : ∀ p σ : Nat, T[p]? = some σ → p < h.length := fun p σ hp => by
      rw [ok.1.1]
      exact (List.getElem?_eq_some_iff.mp hp).1
    have step : G (17, [(0, .inl (.ref 49)), (1, .inl (.int b)), (2, .inl (.int g0))], [.inl (.ref h.length), .inl (.ref 49)], vHp h, 63, 15934) := by
      obtain ⟨u, hu, -⟩ := hOK_get (i := 35) ok2.1 hq2 (by decide)
      have ok3 : wOK (zPhi (n, m, r, true)) N (T ++ vTys) (hput (vHp h) 49 35 (.inl (.ref h.length))) := ⟨hOK_put ok2.1 hq2 trivial, p_putR ok2.1 (Or.inr (Or.inr ⟨rfl, t41⟩)) ok2.2.1, by rw [hput_len]; exact ok2.2.2⟩
      refine g_putf HW rfl ok2.1 hq2 rfl (by decide) rfl ?_
      have fr : ∀ p i σ : Nat, T[p]? = some σ → σ ≠ 42 → σ ≠ 41 → (p ≠ 49 ∨ (i ≠ 35 ∧ i ≠ 36 ∧ i ≠ 37 ∧ i ≠ 38 ∧ i ≠ 39)) → hget (hput (vHp h) 49 35 (.inl (.ref h.length))) p i = hget h p i := fun p i σ hp h1 h2 h3 => (hget_put_ne (by omega)).trans (old p i (lt p σ hp))
      have e13 : hi (hput (vHp h) 49 35 (.inl (.ref h.length))) 49 13 = hi h 49 13 := hi_eq (fr 49 13 5 hq_q (by decide) (by decide) (Or.inr (by decide)))
      have e9 : hi (hput (vHp h) 49 35 (.inl (.ref h.length))) 49 9 = hi h 49 9 := hi_eq (fr 49 9 5 hq_q (by decide) (by decide) (Or.inr (by decide)))
      have t66 : T[66]? = some 31 := ((ok.2.1.2.1 49 5 hq_q (Or.inl rfl)).1.1 (16, 17, 31) (by decide +kernel)).2
      have ei : ∀ k, hins (hput (vHp h) 49 35 (.inl (.ref h.length))) 49 k = hins h 49 k := hins_eq (fun i => hi_eq (fr 66 i 31 t66 (by decide) (by decide) (Or.inl (by decide))))
      refine c_X5_beginValues_20 HW (Nat.le_of_ble_eq_true rfl) (Nat.le_of_ble_eq_true rfl) ok3 hb hg (fun h' ok' f' x37 x38 fresh => ?_)
      refine kk (T ++ vTys) h' (tExt_app T vTys) ok' (fun p i σ hp h1 h2 h3 => (f' p i σ (tExt_app T vTys _ _ hp) h1 h2 h3).trans (fr p i σ hp h1 h2 h3)) (x37.trans e13) ?_ fresh
      rw [x38, e9, ei]
    refine g_step HW (i := (.multianewarray 19 2, .inl .null, 1, 0, 0, 0)) rfl rfl ?_
    show (Nat.blt (h.length + 62) 1000000 && zB (G (17, [(0, .inl (.ref 49)), (1, .inl (.int b)), (2, .inl (.int g0))], [.inl (.ref h.length), .inl (.ref 49)], vHp h, 63, 15934))) = true
    exact t_and2 (t_blt (by omega)) (zB_iff.mpr step)
  · refine g_getf HW rfl ok.1 hq_q rfl gw ?_
    refine zrn_ok HW 1 (zB_iff.mpr ?_)
    exact c_X5_beginValues_20 HW (Nat.zero_le _) (Nat.zero_le _) (up w gw tw) hb hg (fun h' => kk T h' (tExt_rf T))
