abbrev zEco : zE := (yJ0_coder_7d493, cJ0_coder_7d493, 1, some .byte, 0, 98, 0, 0, [])
def zco (i : Nat) (h : zH) : Option zV → zH → Bool := fun r h' => decide (r = some (.inl (.int 0))) && decide (h' = h)
def zslw : List Cond := [.fieldLink "java/lang/String" 9 "java/lang/String" "value" "[B", .methodLink "java/lang/String" 335 yJ0_coder_7d493, .instanceMethod yJ0_coder_7d493, .selects "java/lang/String" yJ0_coder_7d493 yJ0_coder_7d493, .initialized "java/lang/String", .code yJ0_coder_7d493 cJ0_coder_7d493 1 (some .byte), .fieldLink "java/lang/String" 38 "java/lang/String" "COMPACT_STRINGS" "Z", .fieldLink "java/lang/String" 15 "java/lang/String" "coder" "B"]
theorem zl0 : decode cJ0_length_8abf5 0 = .ok (.aload_n 0, 1) := by decide +kernel
theorem zl1 : decode cJ0_length_8abf5 1 = .ok (.getfield 9, 3) := by decide +kernel
theorem zl4 : decode cJ0_length_8abf5 4 = .ok (.arraylength, 1) := by decide +kernel
theorem zl5 : decode cJ0_length_8abf5 5 = .ok (.aload_n 0, 1) := by decide +kernel
theorem zl6 : decode cJ0_length_8abf5 6 = .ok (.invokevirtual 335, 3) := by decide +kernel
theorem zl9 : decode cJ0_length_8abf5 9 = .ok (.ishr, 1) := by decide +kernel
theorem zl10 : decode cJ0_length_8abf5 10 = .ok (.ireturn, 1) := by decide +kernel
theorem zc0 : decode cJ0_coder_7d493 0 = .ok (.getstatic 38, 3) := by decide +kernel
theorem zc3 : decode cJ0_coder_7d493 3 = .ok (.ifCond .eq 10, 3) := by decide +kernel
theorem zc6 : decode cJ0_coder_7d493 6 = .ok (.aload_n 0, 1) := by decide +kernel
theorem zc7 : decode cJ0_coder_7d493 7 = .ok (.getfield 15, 3) := by decide +kernel
theorem zc10 : decode cJ0_coder_7d493 10 = .ok (.goto 4, 3) := by decide +kernel
theorem zc14 : decode cJ0_coder_7d493 14 = .ok (.ireturn, 1) := by decide +kernel
theorem z_coder {l : Launch} {zst : zSt} {TG TN : List Cond} {scr : List zV} {adK adV : Nat → Nat} {ext : Nat → Option Nat} {D : va_G} {ct : Nat → ClassId} (hw : ∀ w ∈ zslw, w ∈ TG) {i : Nat} (hi : i < 8) (h : zH) (ws : va_W) (sz : Nat) (hH : zHp (zrho ws ext) ct h ws) :
    Met l yJ0_coder_7d493 (zWS TG zEco) ({ frames := 0, cells := 0, slots := 0, locals := 0 }) (va_Pc [.ref (adK i)] (zPcB zst TN scr adK adV ext D ct ws sz)) (zQr ext D ct ws sz (zco i h)) 0 0 (va_A ws sz) := by
  refine Met.ofW (cc := cJ0_coder_7d493) (maxL := 1) (ret := some .byte) (by decide) rfl ?_
  intro p e s m args below meth c s₁ B hml hpv
  obtain ⟨rfl, hsz, hP, hK, hD0, hN, hF, h1, h2, h3⟩ := hpv
  subst hsz
  have hts := atoms_spec (ws := zWS TG zEco) B.pre
  have hlocks := B.notSynchronized
  have hx := B.exec
  have hb := B.bytes
  have hown : s.vm.findClass "java/lang/String" = some m.cls := findClass_of_methodNamed B.named
  have hS : va_S (va_A ws s.heap.size) s.heap s.heap [] := va_S.rf
  have hl := lv_entry [.ref (adK i)] (n := 1) (Nat.le_of_ble_eq_true rfl)
  rw [lg_entry_eq]
  generalize (lg_sl [.ref (adK i)] ++ List.replicate (1 - (lg_sl [.ref (adK i)]).length) Slot.unset).toArray = ls at hl ⊢
  have hl : lv_has ls 1 [(0, .ref (adK i))] := hl
  have hwt : ∀ w ∈ zslw, w.before #[Value.ref (adK i)] s = true := fun w h => hts w (List.mem_cons_of_mem _ (hw w h))
  refine va_gets hx hb (ref := "java/lang/String") hF.2.2.2.1 hS hown (hwt _ (by simp [zslw])) (fun x hx => hx) zc0 ?_
  refine lv_if_eq (tgt := 13) hx hb zc3 (by decide) (fun q => absurd q (by decide)) (fun _ => ?_)
  refine lv_aload_n hx hb zc6 rfl (lv_at hl 0 rfl) ?_
  refine vk_getf hx hb (ref := "java/lang/String") (hF.2.2.1.1 i hi).2.1 hS hown (hwt _ (by simp [zslw])) (fun x hx => hx) zc7 ?_
  refine lv_goto (tgt := 14) hx hb zc10 (by decide) ?_
  exact W.zret (ty := .byte) hx hb B.returns (by decide) (fun t ht _ => ⟨⟨some (.inl (.int 0)), h, some (.int 0), ws, by simp [zco], rfl, rfl, hH, by rw [ht]; exact hP, hD0.self, zPre_rf ws⟩, by rw [ht]; exact Nat.le_refl _, fun q h8 h9 => by rw [ht]⟩) (fun q hq => by cases hq) zc14
theorem z_slen {l : Launch} {zst : zSt} {TG TN : List Cond} {scr : List zV} {adK adV : Nat → Nat} {ext : Nat → Option Nat} {D : va_G} {ct : Nat → ClassId} (hG : zGood TG) (hTN : zTNok TN) (hw : ∀ w ∈ zslw, w ∈ TG) (huw : ∀ w ∈ zuws, w ∈ TG) (d : Nat) : zSL1 l zst TG TN scr adK adV ext D ct d := by
  intro i hi h ws sz hH
  refine Met.ofW (cc := cJ0_length_8abf5) (maxL := 1) (ret := some .int) (by decide) rfl ?_
  intro p e s m args below meth c s₁ B hml hpv
  obtain ⟨rfl, hsz, hP, hK, hD0, hN, hF, h1, h2, h3⟩ := hpv
  subst hsz
  have hts := atoms_spec (ws := zWS TG zESL) B.pre
  have hlocks := B.notSynchronized
  have hx := B.exec
  have hb := B.bytes
  have hown : s.vm.findClass "java/lang/String" = some m.cls := findClass_of_methodNamed B.named
  have hS : va_S (va_A ws s.heap.size) s.heap s.heap [] := va_S.rf
  have hl := lv_entry [.ref (adK i)] (n := 1) (Nat.le_of_ble_eq_true rfl)
  rw [lg_entry_eq]
  generalize (lg_sl [.ref (adK i)] ++ List.replicate (1 - (lg_sl [.ref (adK i)]).length) Slot.unset).toArray = ls at hl ⊢
  have hl : lv_has ls 1 [(0, .ref (adK i))] := hl
  have hwt : ∀ w ∈ zslw, w.before #[Value.ref (adK i)] s = true := fun w h => hts w (List.mem_cons_of_mem _ (hw w h))
  have hTG : ∀ w ∈ TG, w.before #[Value.ref (adK i)] s = true := fun w h => hts w (List.mem_cons_of_mem _ h)
  obtain ⟨s1, s2, s3, s4⟩ := hF.2.2.1.1 i hi
  have C : zCx p { frames := d + 2, cells := 0, slots := 0, locals := 60 * (d + 2) } s m [Value.ref (adK i)].toArray meth c (fun _ => none) zst TG TN scr adK adV ext D ct (va_A ws s.heap.size) zESL 0 0 d :=
    ⟨hx, hb, hml, hown, hTG, fun q => absurd q (by decide), hK, hN, hF, h1, h2, h3, fun q hq => Or.inr hq, Nat.le_refl _, Nat.le_refl _, Nat.le_refl _, Nat.le_refl _, fun pc i hi => (by cases hi), huw⟩
  refine lv_aload_n hx hb zl0 rfl (lv_at hl 0 rfl) ?_
  refine vk_getf hx hb (ref := "java/lang/String") s3 hS hown (hwt _ (by simp [zslw])) (fun x hx => hx) zl1 ?_
  refine va_tlen hx hb s4 hS rfl zl4 ?_
  refine lv_aload_n hx hb zl5 rfl (lv_at hl 0 rfl) ?_
  have hpay : ∀ w ∈ zWS TG zEco, ∀ (a' : Array Value) (U : State), s.WarmedH U.vm → w.before a' U = true := by
    intro w hw9 a' U hW
    rcases List.mem_cons.mp hw9 with rfl | hw9
    · have hc := hw (.code yJ0_coder_7d493 cJ0_coder_7d493 1 (some .byte)) (by simp [zslw])
      exact word_at hW (hG _ hc) (hTG _ hc)
    · exact word_at hW (hG _ hw9) (hTG _ hw9)
  have cb : CallB (zrm zESL d) s [Value.ref (adK i)].toArray "java/lang/String" 335 yJ0_coder_7d493 cJ0_coder_7d493 1 (some .byte) (zWS TG zEco) ({ frames := 0, cells := 0, slots := 0, locals := 0 }) 0 0 0 := by
    refine ⟨rfl, rfl, by show 0 + 1 ≤ d + 1; omega, by show 8 + (1 + 11) + 0 ≤ 60 * (d + 1); omega, hpay, List.mem_cons_self, hwt _ (by simp [zslw]), hwt _ (by simp [zslw, yJ0_coder_7d493, RJ0]), ⟨by decide, by decide⟩, fun sig h => ?_, hwt _ (by simp [zslw])⟩
    have h9 : (parseMethodDescriptor yJ0_coder_7d493.desc).map (fun d => d.parameters.length) = some 0 := by decide +kernel
    rw [h] at h9
    exact (Option.some.inj h9).symm
  have hpcB : ∀ U : State, U.heap = s.heap → s.WarmedH U.vm → va_Pc [Value.ref (adK i)] (zPcB zst TN scr adK adV ext D ct ws s.heap.size) (Value.ref (adK i) :: []).toArray U := fun U hU hW => ⟨rfl, zPcB_at C hTN hP hD0.self hS hU hW⟩
  refine z_after (e := e) (rc := 0) (rs := 0) (mc := 0) (ms := 0) (nL := 1) (L := []) (r0 := [.inl (.int (Int32.ofNat (zlens.getD i 0)))]) (ws0 := ws) (post := zco i h) (fun q hq => Or.inr hq) (lv_sub hl [] rfl) (fun q hq => by cases hq) (show zL2 (zrho ws ext) [.inl (.int (Int32.ofNat (zlens.getD i 0)))] [.int (Int32.ofNat (zlens.getD i 0))] from ⟨rfl, trivial⟩) hD0.self hS (Nat.le_refl _) (Nat.le_refl _) (zPre_rf ws) (va_runV (As := []) (n := 0) (C := "java/lang/String") (nL := 1) ⟨hx, hb, hml, hown, hTG⟩ (z_coder hw hi h ws s.heap.size hH) ⟨cb, hwt _ (by simp [zslw]), hwt _ (by simp [zslw])⟩ ⟨zPcB_blind hTN, vk_recv hF.2.2.1 hi hS, hpcB⟩ rfl rfl hl.1 rfl (lv_room (by show 1 + 0 ≤ 8; omega)) zl6 ⟨by show 0 + 0 ≤ 0; omega, by show 0 + 0 ≤ 0; omega⟩) (fun r' h' hp => ?_)
  obtain ⟨p1, p2⟩ := z_and hp
  have p1 := of_decide_eq_true p1
  have p2 := of_decide_eq_true p2
  subst p1
  subst p2
  intro ls2 stc H locs ws' hrel
  obtain ⟨hl', hL', hst, hH', hP', hD', hS', hnc, hns, hpre⟩ := hrel
  obtain ⟨w1, w2, r2, rfl, e1, e2, hr2⟩ := zL2_2 hst
  have e3 := zL2_nil hr2
  subst e3
  cases e1
  cases e2
  refine lv_ishr hx hb zl9 ?_
  have hsh : ∀ j, j < 8 → Int32.ofNat (zlens.getD j 0) >>> ((0 : Int32) &&& 31) = Int32.ofNat (zlens.getD j 0) := by decide +kernel
  rw [hsh i hi]
  exact W.iret hx hb B.returns (fun t ht _ => ⟨⟨some (.inl (.int (Int32.ofNat (zlens.getD i 0)))), h', some (.int (Int32.ofNat (zlens.getD i 0))), ws', by simp, rfl, rfl, hH', by rw [ht]; exact hP', hD', hpre⟩, by rw [ht]; exact hS'.1, fun q h8 h9 => by rw [ht]; exact hS'.2.1 q h8 h9⟩) hS'.2.2 zl10
