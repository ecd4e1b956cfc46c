theorem z_ar1 {a b : Nat} (h1 : 1000000 ≤ a) (h2 : b = a - 1000000) : a = 1000000 + b := by omega
theorem z_pl {l : List Nat} {f : Nat → va_E} {v : va_E} : va_pl ([] ++ l) (vr_up f l v) = l.map (fun a => (a, v)) := by
  unfold va_pl
  rw [List.nil_append]
  apply List.map_congr_left
  intro a ha
  rw [vr_up_in ha]
section
variable {p : Program} {l : Launch} {e : Env} {R : Room} {s : State} {m : MethodId} {args : Array Value} {below : List Frame} {meth : Method} {c : Code} {Q : State → Prop}
variable {prog : Nat → Option zE} {zst : zSt} {TG TN : List Cond} {scr : List zV} {adK adV : Nat → Nat} {ext : Nat → Option Nat} {D : va_G} {ct : Nat → ClassId} {A : Nat → Prop} {E : zE} {rc rs d : Nat} {ws0 : va_W}
variable {K : zS → Bool} {cv : zV} {a b k pc nc ns : Nat} {L : zL} {st : List zV} {h : zH} {ls : Array Slot} {stc : List Value} {H : Heap} {locs : List Loc} {ws : va_W} {cc : zK}
theorem z_mrel {x : zV} {t u N Kn : Nat} {r0 : List zV} {rest : List Value} {q : Nat} {r : Nat → Nat} {f : (Nat → Int32) ⊕ (Nat → Int64) ⊕ (Nat → UInt32) ⊕ (Nat → UInt64) ⊕ (Nat → Option Nat)} {H1 : Heap} {nc' ns' : Nat} (ht : t = 3 ∨ t = 4) (hu : u < 6) (hk : zkd u f) (hv : ∀ (ρ : Nat → Option Nat) (j : Nat), zg ρ x (zval f j))
    (hl : lv_has ls (zEm E) []) (hL : zLo (zrho ws ext) L ls) (hr : zL2 (zrho ws ext) r0 rest) (hH : zHp (zrho ws ext) ct h ws) (h3 : h.length + N < 1000000)
    (hP1 : va_P D vwCl (ws ++ ((q, .inl (ct t, N, .inr (.inr (.inr (.inr (fun i => if i < N then some (r i) else none)))))) :: (List.range N).map (fun i => (r i, .inl (ct u, Kn, f))))) H1) (hD1 : va_D A (ws ++ ((q, .inl (ct t, N, .inr (.inr (.inr (.inr (fun i => if i < N then some (r i) else none)))))) :: (List.range N).map (fun i => (r i, .inl (ct u, Kn, f)))))) (hS1 : va_S A s.heap H1 locs) (hnc : nc' ≤ rc) (hns : ns' ≤ rs) (hpre : zPre ws0 ws) :
    zRel ext D ct (zEm E) rc rs A s.heap ws0 L (.inl (.ref h.length) :: r0) (h ++ ((10 + t, (List.range N).map (fun i => .inl (.ref (h.length + 1 + i)))) :: List.replicate N (10 + u, List.replicate Kn x))) nc' ns' ls (.ref q :: rest) H1 locs (ws ++ ((q, .inl (ct t, N, .inr (.inr (.inr (.inr (fun i => if i < N then some (r i) else none)))))) :: (List.range N).map (fun i => (r i, .inl (ct u, Kn, f))))) := by
  generalize hw : ((q, .inl (ct t, N, .inr (.inr (.inr (.inr (fun i => if i < N then some (r i) else none)))))) :: (List.range N).map (fun i => (r i, .inl (ct u, Kn, f))) : va_W) = w2 at hP1 hD1 ⊢
  have hm : ∀ k9 a9 : Nat, zrho ws ext k9 = some a9 → zrho (ws ++ w2) ext k9 = some a9 := fun _ _ hk => zrho_app hk
  have e0 : (ws ++ w2)[h.length]? = some (q, .inl (ct t, N, .inr (.inr (.inr (.inr (fun i => if i < N then some (r i) else none)))))) := by
    rw [hH.1, List.getElem?_append_right (Nat.le_refl _), Nat.sub_self, ← hw]
    rfl
  have e1 : ∀ i, i < N → (ws ++ w2)[h.length + 1 + i]? = some (r i, .inl (ct u, Kn, f)) := fun i hi => by
    rw [hH.1, List.getElem?_append_right (by omega), show ws.length + 1 + i - ws.length = i + 1 by omega, ← hw, List.getElem?_cons_succ, List.getElem?_map, List.getElem?_range hi]
    rfl
  refine ⟨hl, zLo_mono hm hL, ⟨⟨q, zrho_at (by omega) e0, rfl⟩, zL2_mono hm hr⟩, zHp_app (zHp_mono hm hH) ?_, hP1, hD1, hS1, hnc, hns, zPre_tr hpre (zPre_app _ _)⟩
  refine ⟨by rw [← hw]; simp, fun i c' q' h1 h2 => ?_⟩
  cases i with
  | zero =>
    rw [← hw, List.getElem?_cons_zero] at h2
    rw [List.getElem?_cons_zero] at h1
    cases h1
    cases h2
    refine ⟨t, rfl, by omega, rfl, by simp, ?_, fun j a9 hj => ?_⟩
    · rcases ht with rfl | rfl <;> exact ⟨_, rfl⟩
    · have hj1 : j < N := by
        have := (List.getElem?_eq_some_iff.mp hj).1
        simpa using this
      rw [List.getElem?_map, List.getElem?_range hj1] at hj
      cases hj
      refine ⟨r j, zrho_at (by omega) (e1 j hj1), ?_⟩
      show va_rf (if j < N then some (r j) else none) = _
      rw [if_pos hj1]
      rfl
  | succ i =>
    rw [← hw, List.getElem?_cons_succ] at h2
    rw [List.getElem?_cons_succ] at h1
    have hi1 : i < N := by
      have := (List.getElem?_eq_some_iff.mp h1).1
      simpa using this
    rw [List.getElem?_map, List.getElem?_range hi1] at h2
    have h5 := List.eq_of_mem_replicate (List.mem_of_getElem? h1)
    cases h2
    subst h5
    refine ⟨u, rfl, hu, rfl, by simp, hk, fun j a9 hj => ?_⟩
    have h6 := List.eq_of_mem_replicate (List.mem_of_getElem? hj)
    rw [h6]
    exact hv _ _
theorem z_mna (C : zCx p R s m args meth c prog zst TG TN scr adK adV ext D ct A E rc rs d) (IH : ∀ x, K x = true → zGo p l e R s m args below meth c Q ext D ct (zEm E) rc rs A ws0 x) (hrel : zRel ext D ct (zEm E) rc rs A s.heap ws0 L st h nc ns ls stc H locs ws) {ix dd : Nat}
    (k1 : zdec E.2.1 pc (.multianewarray ix dd) = true) (k2 : zside prog E.1 zst (.multianewarray ix dd) cv a b k = true) (k3 : ∀ w ∈ zwords prog E.1.cls (.multianewarray ix dd) cv a b, w ∈ TG)
    (hz : zstep zNf zdfl zslen prog (zEm E) rc rs scr cc K (.multianewarray ix dd) cv a b k pc L st h nc ns = true) : W p l e R s m args below meth c H locs nc ns Q (F0 m pc ls stc) := by
  have hdg : decode E.2.1 pc = .ok (.multianewarray ix dd, 4) := of_decide_eq_true k1
  have hdd : dd = 2 := Nat.eq_of_beq_eq_true (z_and k2).1
  subst hdd
  obtain ⟨hl, hL, hst, hH, hP, hD, hS, hnc, hns, hpre⟩ := hrel
  obtain ⟨hx, hb, hml, hown, hts, hini, hK, -, -, -, hO1, hO2, hA, -, -, hrc, hrs, -, huw⟩ := C
  simp only [zstep] at hz
  split at hz
  · next kn n r0 =>
    obtain ⟨w0, w1, rest, rfl, e0, e1, hrest⟩ := zL2_2 hst
    cases e0
    cases e1
    split at hz
    · cases hz
    · next hn =>
      split at hz
      · cases hz
      · next hkn =>
        obtain ⟨h1, hz⟩ := z_and hz
        obtain ⟨h2, hz⟩ := z_and hz
        obtain ⟨h3, hz⟩ := z_and hz
        obtain ⟨h4, hz⟩ := z_and hz
        obtain ⟨h5, hz⟩ := z_and hz
        have h1 := z_ble h1
        have h2 := z_ble h2
        have h3 := z_ble h3
        have h4 := z_ble h4
        have h5 := z_blt h5
        have hPa : va_P D vwCl (ws ++ va_pl [] (fun _ => .inr (0, []))) H := by
          rw [show va_pl [] (fun _ => (.inr (0, []) : va_E)) = [] from rfl, List.append_nil]
          exact hP
        have hDa : va_D A (ws ++ va_pl [] (fun _ => .inr (0, []))) := by
          rw [show va_pl [] (fun _ => (.inr (0, []) : va_E)) = [] from rfl, List.append_nil]
          exact hD
        split at hz
        · have hcy : s.vm.findClass (FieldType.array FieldType.long).toString = some (ct 1) := (hK.2 1 _ (z_tys ct (by omega))).2
          refine va_mna (ty := .long) (z := (kn.toNatClampNeg, .inr (.inl (fun _ => 0)))) hx hb hown (hts _ (k3 _ List.mem_cons_self)) hO1 (hts _ (k3 _ (List.mem_cons_of_mem _ List.mem_cons_self))) hcy hK hPa hDa hS hA hn hkn rfl rfl (by omega) (by show kn.toNatClampNeg * 8 ≤ _; omega) (by omega) rfl rfl (by omega) (by omega) (fun c9 => by first | rfl | (rw [vp_cell_l]; exact arrV_new _ _ _) | (rw [vp_cell_l]; exact (arrV_new _ _ _).symm)) hdg (fun q r cA H1 hi hj hK1 hP1 hD1 hS1 => ?_)
          have hc := z_ctu (t := 3) (by omega) hK hK1
          subst hc
          rw [z_pl, List.append_assoc, List.map_map] at hP1 hD1
          exact IH _ hz ls _ H1 locs _ (z_mrel (t := 3) (u := 1) (f := .inr (.inl (fun _ => 0))) (Or.inl rfl) (by omega) ⟨_, rfl⟩ (fun _ _ => rfl) hl hL hrest hH h5 hP1 hD1 hS1 h3 h4 hpre)
        · have hcy : s.vm.findClass (FieldType.array FieldType.int).toString = some (ct 0) := (hK.2 0 _ (z_tys ct (by omega))).2
          refine va_mna (ty := .int) (z := (kn.toNatClampNeg, .inl (fun _ => 0))) hx hb hown (hts _ (k3 _ List.mem_cons_self)) hO2 (hts _ (k3 _ (List.mem_cons_of_mem _ List.mem_cons_self))) hcy hK hPa hDa hS hA hn hkn rfl rfl (by omega) (by show kn.toNatClampNeg * 4 ≤ _; omega) (by omega) rfl rfl (by omega) (by omega) (fun c9 => by first | rfl | (rw [vp_cell_i]; exact arrV_new _ _ _) | (rw [vp_cell_i]; exact (arrV_new _ _ _).symm)) hdg (fun q r cA H1 hi hj hK1 hP1 hD1 hS1 => ?_)
          have hc := z_ctu (t := 4) (by omega) hK hK1
          subst hc
          rw [z_pl, List.append_assoc, List.map_map] at hP1 hD1
          exact IH _ hz ls _ H1 locs _ (z_mrel (t := 4) (u := 0) (f := .inl (fun _ => 0)) (Or.inr rfl) (by omega) ⟨_, rfl⟩ (fun _ _ => rfl) hl hL hrest hH h5 hP1 hD1 hS1 h3 h4 hpre)
        · cases hz
  · cases hz
theorem z_ldc (C : zCx p R s m args meth c prog zst TG TN scr adK adV ext D ct A E rc rs d) (IH : ∀ x, K x = true → zGo p l e R s m args below meth c Q ext D ct (zEm E) rc rs A ws0 x) (hrel : zRel ext D ct (zEm E) rc rs A s.heap ws0 L st h nc ns ls stc H locs ws) {ix : Nat}
    (k1 : zdec E.2.1 pc (.ldc ix) = true) (k2 : zside prog E.1 zst (.ldc ix) cv a b k = true) (k3 : ∀ w ∈ zwords prog E.1.cls (.ldc ix) cv a b, w ∈ TG)
    (hz : K (pc + 2, L, cv :: st, h, nc, ns) = true) : W p l e R s m args below meth c H locs nc ns Q (F0 m pc ls stc) := by
  have hdg : decode E.2.1 pc = .ok (.ldc ix, 2) := of_decide_eq_true k1
  obtain ⟨hl, hL, hst, hH, hP, hD, hS, hnc, hns, hpre⟩ := hrel
  obtain ⟨hx, hb, hml, hown, hts, hini, hK, -, hF, -⟩ := C
  simp only [zside] at k2
  split at k2
  · next x => exact lv_ldc hx hb hown (hts _ (k3 _ List.mem_cons_self)) hdg (IH _ hz ls _ H locs ws ⟨hl, hL, ⟨rfl, hst⟩, hH, hP, hD, hS, hnc, hns, hpre⟩)
  · next kk =>
    obtain ⟨q1, q2⟩ := z_and k2
    obtain ⟨q, hq, hq2⟩ := List.any_eq_true.mp q2
    obtain ⟨q3, q4⟩ := z_and hq2
    obtain ⟨q5, q6⟩ := z_and q4
    have q1 : 1000000 ≤ kk := z_ble q1
    have q3 : q.1 = E.1.cls := of_decide_eq_true q3
    have q5 := Nat.eq_of_beq_eq_true q5
    have q6 : q.2.2.2 = kk - 1000000 := Nat.eq_of_beq_eq_true q6
    have q7 : kk = 1000000 + q.2.2.2 := z_ar1 q1 q6
    obtain ⟨f1, f2⟩ := hF.1 q hq
    rw [q3, q5] at f1
    have f3 := hF.2.1 _ f2
    refine va_ldcS hx hb hown f1 hdg (IH _ hz ls _ H locs ws ⟨hl, hL, ⟨⟨_, ?_, rfl⟩, hst⟩, hH, hP, hD, hS, hnc, hns, hpre⟩)
    unfold zrho
    rw [if_neg (Nat.not_lt.mpr q1), q7]
    exact f3
  · cases k2
theorem z_tsw (C : zCx p R s m args meth c prog zst TG TN scr adK adV ext D ct A E rc rs d) (IH : ∀ x, K x = true → zGo p l e R s m args below meth c Q ext D ct (zEm E) rc rs A ws0 x) (hrel : zRel ext D ct (zEm E) rc rs A s.heap ws0 L st h nc ns ls stc H locs ws) {df lo hi : Int} {offs : Array Int}
    (k1 : zdec E.2.1 pc (.tableswitch df lo hi offs) = true)
    (hz : zstep zNf zdfl zslen prog (zEm E) rc rs scr cc K (.tableswitch df lo hi offs) cv a b k pc L st h nc ns = true) : W p l e R s m args below meth c H locs nc ns Q (F0 m pc ls stc) := by
  obtain ⟨len, hdg⟩ := zdec_t k1
  obtain ⟨hl, hL, hst, hH, hP, hD, hS, hnc, hns, hpre⟩ := hrel
  obtain ⟨hx, hb, -⟩ := C
  simp only [zstep] at hz
  split at hz
  · next v r =>
    obtain ⟨w, rest, rfl, hg, hrest⟩ := zL2_cons hst
    obtain ⟨h1, hz⟩ := z_and hz
    obtain ⟨x, rfl, b1, b2⟩ := zg_I hg h1
    split at hz
    · next ho =>
      obtain ⟨t, ht, hz⟩ := zof_sp hz
      exact lv_tableOut hx hb hdg (by omega) ht (IH _ hz ls _ H locs ws ⟨hl, hL, hrest, hH, hP, hD, hS, hnc, hns, hpre⟩)
    · split at hz
      · next z =>
        cases hg
        obtain ⟨h2, hz⟩ := z_and hz
        obtain ⟨h3, hz⟩ := z_and hz
        split at hz
        · next off ho =>
          obtain ⟨t, ht, hz⟩ := zof_sp hz
          exact lv_tableIn hx hb hdg (by simpa using h2) (by simpa using h3) ho ht (IH _ hz ls _ H locs ws ⟨hl, hL, hrest, hH, hP, hD, hS, hnc, hns, hpre⟩)
        · cases hz
      · cases hz
  · cases hz
theorem z_icmp (C : zCx p R s m args meth c prog zst TG TN scr adK adV ext D ct A E rc rs d) (IH : ∀ x, K x = true → zGo p l e R s m args below meth c Q ext D ct (zEm E) rc rs A ws0 x) (hrel : zRel ext D ct (zEm E) rc rs A s.heap ws0 L st h nc ns ls stc H locs ws) {cd : ClassFile.Cond} {off : Int}
    (k1 : zdec E.2.1 pc (.if_icmp cd off) = true)
    (hz : zstep zNf zdfl zslen prog (zEm E) rc rs scr cc K (.if_icmp cd off) cv a b k pc L st h nc ns = true) : W p l e R s m args below meth c H locs nc ns Q (F0 m pc ls stc) := by
  have hdg : decode E.2.1 pc = .ok (.if_icmp cd off, 3) := of_decide_eq_true k1
  obtain ⟨hl, hL, hst, hH, hP, hD, hS, hnc, hns, hpre⟩ := hrel
  obtain ⟨hx, hb, -⟩ := C
  simp only [zstep] at hz
  split at hz
  · next vy vx r =>
    obtain ⟨wy, wx, rest, rfl, gy, gx, hrest⟩ := zL2_2 hst
    obtain ⟨h1, hz⟩ := z_and hz
    obtain ⟨h2, hz⟩ := z_and hz
    obtain ⟨x, rfl, bx⟩ := zg_I gx h1
    obtain ⟨y, rfl, bb⟩ := zg_I gy h2
    obtain ⟨t, ht, hz⟩ := zof_sp hz
    have T : zop cd x y → W p l e R s m args below meth c H locs nc ns Q (F0 m t ls rest) := fun hh => IH _ (zbr_t hz (zcond_t bx bb hh)) ls _ H locs ws ⟨hl, hL, hrest, hH, hP, hD, hS, hnc, hns, hpre⟩
    have F : ¬ zop cd x y → W p l e R s m args below meth c H locs nc ns Q (F0 m (pc + 3) ls rest) := fun hh => IH _ (zbr_f hz (zcond_f bx bb hh)) ls _ H locs ws ⟨hl, hL, hrest, hH, hP, hD, hS, hnc, hns, hpre⟩
    cases cd with
    | eq => exact lv_icmp_eq hx hb hdg ht T F
    | ne => exact lv_icmp_ne hx hb hdg ht T (fun q => F (fun q2 => q2 q))
    | lt => exact lv_icmp_lt hx hb hdg ht T F
    | ge => exact lv_icmp_ge hx hb hdg ht T F
    | gt => exact lv_icmp_gt hx hb hdg ht T F
    | le => exact lv_icmp_le hx hb hdg ht T F
  · cases hz
theorem z_ifc (C : zCx p R s m args meth c prog zst TG TN scr adK adV ext D ct A E rc rs d) (IH : ∀ x, K x = true → zGo p l e R s m args below meth c Q ext D ct (zEm E) rc rs A ws0 x) (hrel : zRel ext D ct (zEm E) rc rs A s.heap ws0 L st h nc ns ls stc H locs ws) {cd : ClassFile.Cond} {off : Int}
    (k1 : zdec E.2.1 pc (.ifCond cd off) = true)
    (hz : zstep zNf zdfl zslen prog (zEm E) rc rs scr cc K (.ifCond cd off) cv a b k pc L st h nc ns = true) : W p l e R s m args below meth c H locs nc ns Q (F0 m pc ls stc) := by
  have hdg : decode E.2.1 pc = .ok (.ifCond cd off, 3) := of_decide_eq_true k1
  obtain ⟨hl, hL, hst, hH, hP, hD, hS, hnc, hns, hpre⟩ := hrel
  obtain ⟨hx, hb, -⟩ := C
  simp only [zstep] at hz
  split at hz
  · next vx r =>
    obtain ⟨wx, rest, rfl, gx, hrest⟩ := zL2_cons hst
    obtain ⟨h1, hz⟩ := z_and hz
    obtain ⟨x, rfl, bx⟩ := zg_I gx h1
    obtain ⟨t, ht, hz⟩ := zof_sp hz
    have bb : zlo (.inl (.int 0)) ≤ (0 : Int32).toInt ∧ (0 : Int32).toInt ≤ zhi (.inl (.int 0)) := ⟨Int.le_refl _, Int.le_refl _⟩
    have T : zop cd x 0 → W p l e R s m args below meth c H locs nc ns Q (F0 m t ls rest) := fun hh => IH _ (zbr_t hz (zcond_t bx bb hh)) ls _ H locs ws ⟨hl, hL, hrest, hH, hP, hD, hS, hnc, hns, hpre⟩
    have F : ¬ zop cd x 0 → W p l e R s m args below meth c H locs nc ns Q (F0 m (pc + 3) ls rest) := fun hh => IH _ (zbr_f hz (zcond_f bx bb hh)) ls _ H locs ws ⟨hl, hL, hrest, hH, hP, hD, hS, hnc, hns, hpre⟩
    cases cd with
    | eq => exact lv_if_eq hx hb hdg ht T F
    | ne => exact lv_if_ne hx hb hdg ht T (fun q => F (fun q2 => q2 q))
    | lt => exact lv_if_lt hx hb hdg ht T F
    | ge => exact lv_if_ge hx hb hdg ht T F
    | gt => exact lv_if_gt hx hb hdg ht T F
    | le => exact lv_if_le hx hb hdg ht T F
  · cases hz
end
