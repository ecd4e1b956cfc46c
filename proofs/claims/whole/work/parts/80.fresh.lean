theorem g_new (E : zE) {scr : List zV} {rc rs : Nat} {cc : zK} {post : Option zV → zH → Bool} {G : zS → Prop} {pc nc ns : Nat} {L : zL} {st : List zV} {h : zH} (HW : zWalk zprog E scr rc rs cc post G) {ix b c e9 : Nat} {cv : zV} (hf : zft (zEd E) pc = some (.new ix, cv, 5, b, c, e9)) (hc : nc + 1 ≤ rc) (hs : ns + 41 ≤ rs) (hl : h.length + 30 ≤ 1000000) (kk : G (pc + 3, L, .inl (.ref h.length) :: st, h ++ [(5, zdfl 5)], nc + 1, ns + 41)) : G (pc, L, st, h, nc, ns) := by
  refine g_step HW hf rfl ?_
  simp only [zstep]
  exact t_and2 (t_ble hc) (t_and2 (t_ble hs) (t_and2 (t_blt (by omega)) (zB_iff.mpr kk)))
theorem g_callI {E : zE} {scr : List zV} {rc rs : Nat} {cc : zK} {post : Option zV → zH → Bool} {G : zS → Prop} {pc nc ns : Nat} {L : zL} {st : List zV} {h : zH} (HW : zWalk zprog E scr rc rs cc post G) {ix c e9 b : Nat} {cv : zV} (hb : b = 0 ∨ b = 1) (hf : zft (zEd E) pc = some (.invokespecial ix, cv, 192, b, c, e9)) (hc : nc + 29 ≤ rc) (hs : ns + 802 ≤ rs) (hl : h.length + 30 ≤ 1000000) (hz : zsum st ≤ 8) (hcc : cc 192 [.inl (.ref h.length)] (h ++ [(5, zdfl 5)]) (fun v h' => zB (G (pc + 3, L, zpush v st, h', nc + 29, ns + 802))) = true) : G (pc, L, .inl (.ref h.length) :: st, h ++ [(5, zdfl 5)], nc, ns) := by
  have key : zcalv zprog cc 192 (.inl (.ref h.length) :: st) (h ++ [(5, zdfl 5)]) nc ns rc rs (fun st' h' nc' ns' => zB (G (pc + 3, L, st', h', nc', ns'))) = true := by
    show (match zprog 192 with
      | some E => Nat.ble (zEp E) (List.length (.inl (.ref h.length) :: st)) && (Nat.ble (nc + zEc E) rc && (Nat.ble (ns + zEs E) rs && (match List.drop (zEp E) (.inl (.ref h.length) :: st) with
        | .inl (.ref q) :: r => zrow (h ++ [(5, zdfl 5)]) q (zEk E) (fun _ => Nat.ble (zsum r) 8 && cc 192 (.inl (.ref q) :: (List.take (zEp E) (.inl (.ref h.length) :: st)).reverse) (h ++ [(5, zdfl 5)]) (fun v h' => zB (G (pc + 3, L, zpush v r, h', nc + zEc E, ns + zEs E))))
        | _ => false)))
      | none => false) = true
    have hp : zprog 192 = some ze_X5_init := rfl
    rw [hp]
    refine t_and2 rfl (t_and2 (t_ble hc) (t_and2 (t_ble hs) ?_))
    refine zrow_mk (t := 5) (vs := zdfl 5) ?_ (by omega) (t_and2 (t_ble hz) hcc)
    rw [List.getElem?_append_right (Nat.le_refl _), Nat.sub_self]
    rfl
  refine g_step HW hf rfl ?_
  rcases hb with rfl | rfl
  · exact key
  · exact key
theorem c_fresh {P : pP} {N : Nat} {scr : List zV} {d : Nat} {T : List Nat} {h : zH} {post : Option zV → zH → Bool} (ok : wOK (zPhi P) N T h) (hN : h.length + 30 ≤ N) (h6 : N ≤ 1000000) (kk : ∀ (w : Nat) (T' : List Nat) (h' : zH), tExt T T' → wOK (zPhi P) N T' h' → T'[w]? = some 6 → (∀ p i : Nat, T[p]? = some 28 → hget h' p i = hget h p i) → post (some (.inl (.ref w))) h' = true) : zD zprog scr (d + 3) 183 [.inl (.ref 49)] h post = true := by
  obtain ⟨n, m, r, v⟩ := P
  have hq_q := ok.2.1.1.2.2.1
  have hlN : h.length + 30 ≤ 1000000 := by omega
  refine zD_intro (E := ze_X5_fresh) rfl rfl (fun G HW => ?_)
  have two : ∀ (w : Nat) (T2 : List Nat) (h2 : zH) (nc ns : Nat), tExt T T2 → wOK (zPhi (n, m, r, v)) N T2 h2 → hget h2 49 27 = some (.inl (.ref w)) → T2[w]? = some 6 → (∀ p i : Nat, T[p]? = some 28 → hget h2 p i = hget h p i) → nc ≤ 30 → ns ≤ 843 → G (18, [(0, .inl (.ref 49))], [], h2, nc, ns) := by
    intro w T2 h2 nc ns m2 ok2 hw tw fr hn hs
    have hq2 := m2 _ _ hq_q
    refine zrn_ok HW 1 (zB_iff.mpr (?_ : G (19, [(0, .inl (.ref 49))], [.inl (.ref 49)], h2, nc, ns)))
    refine g_getf HW rfl ok2.1 hq2 rfl hw ?_
    refine zrn_ok HW 1 (zB_iff.mpr (?_ : G (23, [(0, .inl (.ref 49))], [.inl (.ref 49), .inl (.ref w)], h2, nc, ns)))
    refine g_callV (E' := ze_X5_takeFrom) HW rfl rfl (Nat.le_of_ble_eq_true rfl) (by show nc + 0 ≤ 30; omega) (by show ns + 0 ≤ 843; omega) ok2.1 rfl tw rfl (Nat.le_of_ble_eq_true rfl) (c_takeFrom6 ok2 tw hq2 (fun h3 ok3 f28 f49 => zB_iff.mpr ?_))
    show G (26, [(0, .inl (.ref 49))], [], h3, nc, ns)
    refine zrn_ok HW 1 (zB_iff.mpr (?_ : G (27, [(0, .inl (.ref 49))], [.inl (.ref 49)], h3, nc, ns)))
    refine g_getf HW rfl ok3.1 hq2 rfl ((f49 27).trans hw) ?_
    refine zrn_ok HW 1 ?_
    exact t_and2 rfl (kk w T2 h3 m2 ok3 tw (fun p i hp => (f28 p i (m2 _ _ hp)).trans (fr p i hp)))
  refine zrn_ok HW 1 (zB_iff.mpr (?_ : G (1, [(0, .inl (.ref 49))], [.inl (.ref 49)], h, 0, 0)))
  have kf : pNul T h 49 27 6 := ok.2.1.2.2.2.2.2.2.2.2.1
  rcases kf with kf | ⟨w, kf, tw⟩
  · refine g_getf HW rfl ok.1 hq_q rfl kf ?_
    refine zrn_ok HW 2 (zB_iff.mpr (?_ : G (8, [(0, .inl (.ref 49))], [.inl (.ref 49)], h, 0, 0)))
    refine g_new _ HW rfl (by show 0 + 1 ≤ 30; decide) (by show 0 + 41 ≤ 843; decide) hlN ?_
    refine zrn_ok HW 1 (zB_iff.mpr (?_ : G (12, [(0, .inl (.ref 49))], [.inl (.ref h.length), .inl (.ref h.length), .inl (.ref 49)], h ++ [(5, zdfl 5)], 1, 41)))
    refine g_callI (b := 0) HW (Or.inl rfl) rfl (by show 1 + 29 ≤ 30; decide) (by show 41 + 802 ≤ 843; decide) hlN (Nat.le_of_ble_eq_true rfl) (c_init hlN (zB_iff.mpr ?_))
    show G (15, [(0, .inl (.ref 49))], [.inl (.ref h.length), .inl (.ref 49)], iHp h 22 29, 30, 843)
    obtain ⟨ok2, t6, old⟩ := new_ok ok hN h6
    have hq2 : (T ++ iTys)[49]? = some 5 := tExt_app T iTys _ _ hq_q
    have lt : ∀ p σ : Nat, T[p]? = some σ → p < h.length := fun p σ hp => by
      rw [ok.1.1]
      exact (List.getElem?_eq_some_iff.mp hp).1
    obtain ⟨u, hu, -⟩ := hOK_get (i := 27) ok2.1 hq2 (by decide)
    have ok3 : wOK (zPhi (n, m, r, v)) N (T ++ iTys) (hput (iHp h 22 29) 49 27 (.inl (.ref h.length))) := ⟨hOK_put ok2.1 hq2 trivial, p_putR ok2.1 (Or.inr (Or.inl ⟨rfl, t6, rfl⟩)) ok2.2.1, by rw [hput_len]; exact ok2.2.2⟩
    refine g_putf HW rfl ok2.1 hq2 rfl (by decide) rfl ?_
    refine two h.length _ _ 30 843 (tExt_app T iTys) ok3 (hget_put hu) t6 (fun p i hp => ?_) (by decide) (by decide)
    rw [hget_put_ne (Or.inl (ty_ne hp hq_q (by decide)))]
    exact old p i (lt _ _ hp)
  · refine g_getf HW rfl ok.1 hq_q rfl kf ?_
    refine zrn_ok HW 1 (zB_iff.mpr ?_)
    exact two w T h 0 0 (tExt_rf T) ok kf tw (fun _ _ _ => rfl) (by decide) (by decide)
theorem c_image {P : pP} {N : Nat} {scr : List zV} {d : Nat} {T : List Nat} {h : zH} {post : Option zV → zH → Bool} (ok : wOK (zPhi P) N T h) (hN : h.length + 30 ≤ N) (h6 : N ≤ 1000000) (kk : ∀ (T' : List Nat) (h' : zH), tExt T T' → wOK (zPhi P) N T' h' → (∀ p i : Nat, T[p]? = some 28 → hget h' p i = hget h p i) → post (some (.inl (.int 1))) h' = true) : zD zprog scr (d + 3) 190 [.inl (.ref 49)] h post = true := by
  obtain ⟨n, m, r, v⟩ := P
  have hq_q := ok.2.1.1.2.2.1
  have hlN : h.length + 30 ≤ 1000000 := by omega
  refine zD_intro (E := ze_X5_image) rfl rfl (fun G HW => ?_)
  have two : ∀ (w : Nat) (T2 : List Nat) (h2 : zH) (nc ns : Nat), tExt T T2 → wOK (zPhi (n, m, r, v)) N T2 h2 → hget h2 49 26 = some (.inl (.ref w)) → T2[w]? = some 6 → (∀ p i : Nat, T[p]? = some 28 → hget h2 p i = hget h p i) → nc ≤ 30 → ns ≤ 843 → G (18, [(0, .inl (.ref 49))], [], h2, nc, ns) := by
    intro w T2 h2 nc ns m2 ok2 hw tw fr hn hs
    have hq2 := m2 _ _ hq_q
    refine zrn_ok HW 1 (zB_iff.mpr (?_ : G (19, [(0, .inl (.ref 49))], [.inl (.ref 49)], h2, nc, ns)))
    refine g_getf HW rfl ok2.1 hq2 rfl hw ?_
    refine zrn_ok HW 1 (zB_iff.mpr (?_ : G (23, [(0, .inl (.ref 49))], [.inl (.ref 49), .inl (.ref w)], h2, nc, ns)))
    refine g_callV (E' := ze_X5_takeFrom) HW rfl rfl (Nat.le_of_ble_eq_true rfl) (by show nc + 0 ≤ 30; omega) (by show ns + 0 ≤ 843; omega) ok2.1 rfl tw rfl (Nat.le_of_ble_eq_true rfl) (c_takeFrom6 ok2 tw hq2 (fun h3 ok3 f28 f49 => zB_iff.mpr ?_))
    show G (26, [(0, .inl (.ref 49))], [], h3, nc, ns)
    refine zrn_ok HW 2 ?_
    exact zret_i rfl rfl (kk T2 h3 m2 ok3 (fun p i hp => (f28 p i (m2 _ _ hp)).trans (fr p i hp)))
  refine zrn_ok HW 1 (zB_iff.mpr (?_ : G (1, [(0, .inl (.ref 49))], [.inl (.ref 49)], h, 0, 0)))
  have kf : pNul T h 49 26 6 := ok.2.1.2.2.2.2.2.2.2.1
  rcases kf with kf | ⟨w, kf, tw⟩
  · refine g_getf HW rfl ok.1 hq_q rfl kf ?_
    refine zrn_ok HW 2 (zB_iff.mpr (?_ : G (8, [(0, .inl (.ref 49))], [.inl (.ref 49)], h, 0, 0)))
    refine g_new _ HW rfl (by show 0 + 1 ≤ 30; decide) (by show 0 + 41 ≤ 843; decide) hlN ?_
    refine zrn_ok HW 1 (zB_iff.mpr (?_ : G (12, [(0, .inl (.ref 49))], [.inl (.ref h.length), .inl (.ref h.length), .inl (.ref 49)], h ++ [(5, zdfl 5)], 1, 41)))
    refine g_callI (b := 0) HW (Or.inl rfl) rfl (by show 1 + 29 ≤ 30; decide) (by show 41 + 802 ≤ 843; decide) hlN (Nat.le_of_ble_eq_true rfl) (c_init hlN (zB_iff.mpr ?_))
    show G (15, [(0, .inl (.ref 49))], [.inl (.ref h.length), .inl (.ref 49)], iHp h 22 29, 30, 843)
    obtain ⟨ok2, t6, old⟩ := new_ok ok hN h6
    have hq2 : (T ++ iTys)[49]? = some 5 := tExt_app T iTys _ _ hq_q
    have lt : ∀ p σ : Nat, T[p]? = some σ → p < h.length := fun p σ hp => by
      rw [ok.1.1]
      exact (List.getElem?_eq_some_iff.mp hp).1
    obtain ⟨u, hu, -⟩ := hOK_get (i := 26) ok2.1 hq2 (by decide)
    have ok3 : wOK (zPhi (n, m, r, v)) N (T ++ iTys) (hput (iHp h 22 29) 49 26 (.inl (.ref h.length))) := ⟨hOK_put ok2.1 hq2 trivial, p_putR ok2.1 (Or.inl ⟨rfl, t6, rfl⟩) ok2.2.1, by rw [hput_len]; exact ok2.2.2⟩
    refine g_putf HW rfl ok2.1 hq2 rfl (by decide) rfl ?_
    refine two h.length _ _ 30 843 (tExt_app T iTys) ok3 (hget_put hu) t6 (fun p i hp => ?_) (by decide) (by decide)
    rw [hget_put_ne (Or.inl (ty_ne hp hq_q (by decide)))]
    exact old p i (lt _ _ hp)
  · refine g_getf HW rfl ok.1 hq_q rfl kf ?_
    refine zrn_ok HW 1 (zB_iff.mpr ?_)
    exact two w T h 0 0 (tExt_rf T) ok kf tw (fun _ _ _ => rfl) (by decide) (by decide)
theorem tq_X5_image_0 {scr : List zV} {P : pP} : tM zty (zPhi P) zprog scr zhts zsm 190 te_X5_image_0 := by
  intro IH E' hE' d hd T h vs post hok hΦ hlen hvs hp
  cases hE'
  have hd : 3 ≤ d := hd
  obtain ⟨d, rfl⟩ : ∃ d', d = d' + 3 := ⟨d - 3, by omega⟩
  obtain ⟨v_q, vs, rfl, k_q, hvs⟩ := okAs_cons hvs
  obtain rfl := okAs_nil hvs
  obtain ⟨q, rfl, hq_q⟩ := tref_sp rfl k_q
  have hq_q : T[q]? = some 5 := hq_q
  obtain rfl := hΦ.1.2.2.2.2.2 q hq_q
  have hlen : h.length + 30 ≤ 1000000 := hlen
  exact c_image (N := h.length + 30) ⟨hok, hΦ, by omega⟩ (Nat.le_refl _) hlen (fun T' h' m' ok' _ => hp _ T' h' m' ok'.1 ok'.2.1 ok'.2.2 ⟨_, rfl, okA_If _, fun c hc => by cases hc⟩)
