abbrev zEil : zE := (yJ0_isLatin1_aae02, cJ0_isLatin1_aae02, 1, some .boolean, 0, 98, 0, 0, [])
abbrev zEl1 : zE := (yJ1_charAt_3b067, cJ1_charAt_3b067, 2, some .char, 2, 99, 0, 0, [])
abbrev zEci : zE := (yJ0_checkIndex_df160, cJ0_checkIndex_df160, 2, none, 2, 99, 0, 0, [])
abbrev zEpi : zE := (yJ3_checkIndex_8e157, cJ3_checkIndex_8e157, 3, some .int, 3, 99, 0, 0, [])
def zpI (x : Int32) (h : zH) : Option zV → zH → Bool := fun r h' => decide (r = some (.inl (.int x))) && decide (h' = h)
def zpN (h : zH) : Option zV → zH → Bool := fun r h' => decide (r = none) && decide (h' = h)
def zsc5 : List Cond := [.methodLink "java/lang/String" 492 yJ0_isLatin1_aae02, .methodLink "java/lang/String" 495 yJ1_charAt_3b067, .methodLink "java/lang/StringLatin1" 9 yJ0_checkIndex_df160, .methodLink "java/lang/String" 1059 yJ3_checkIndex_8e157, .fieldLink "java/lang/String" 1053 "jdk/internal/util/Preconditions" "SIOOBE_FORMATTER" "Ljava/util/function/BiFunction;"]
def zscx : List Cond := zsc5 ++ (zmwords zEil ++ (zmwords zEl1 ++ (zmwords zEci ++ zmwords zEpi)))
theorem zja0 : decode cJ0_charAt_5068e 0 = .ok (.aload_n 0, 1) := by decide +kernel
theorem zja1 : decode cJ0_charAt_5068e 1 = .ok (.invokevirtual 492, 3) := by decide +kernel
theorem zja4 : decode cJ0_charAt_5068e 4 = .ok (.ifCond .eq 12, 3) := by decide +kernel
theorem zja7 : decode cJ0_charAt_5068e 7 = .ok (.aload_n 0, 1) := by decide +kernel
theorem zja8 : decode cJ0_charAt_5068e 8 = .ok (.getfield 9, 3) := by decide +kernel
theorem zja11 : decode cJ0_charAt_5068e 11 = .ok (.iload_n 1, 1) := by decide +kernel
theorem zja12 : decode cJ0_charAt_5068e 12 = .ok (.invokestatic 495, 3) := by decide +kernel
theorem zja15 : decode cJ0_charAt_5068e 15 = .ok (.ireturn, 1) := by decide +kernel
theorem zji0 : decode cJ0_isLatin1_aae02 0 = .ok (.getstatic 38, 3) := by decide +kernel
theorem zji3 : decode cJ0_isLatin1_aae02 3 = .ok (.ifCond .eq 14, 3) := by decide +kernel
theorem zji6 : decode cJ0_isLatin1_aae02 6 = .ok (.aload_n 0, 1) := by decide +kernel
theorem zji7 : decode cJ0_isLatin1_aae02 7 = .ok (.getfield 15, 3) := by decide +kernel
theorem zji10 : decode cJ0_isLatin1_aae02 10 = .ok (.ifCond .ne 7, 3) := by decide +kernel
theorem zji13 : decode cJ0_isLatin1_aae02 13 = .ok (.iconst 1, 1) := by decide +kernel
theorem zji14 : decode cJ0_isLatin1_aae02 14 = .ok (.goto 4, 3) := by decide +kernel
theorem zji18 : decode cJ0_isLatin1_aae02 18 = .ok (.ireturn, 1) := by decide +kernel
theorem zjl0 : decode cJ1_charAt_3b067 0 = .ok (.iload_n 1, 1) := by decide +kernel
theorem zjl1 : decode cJ1_charAt_3b067 1 = .ok (.aload_n 0, 1) := by decide +kernel
theorem zjl2 : decode cJ1_charAt_3b067 2 = .ok (.arraylength, 1) := by decide +kernel
theorem zjl3 : decode cJ1_charAt_3b067 3 = .ok (.invokestatic 9, 3) := by decide +kernel
theorem zjl6 : decode cJ1_charAt_3b067 6 = .ok (.aload_n 0, 1) := by decide +kernel
theorem zjl7 : decode cJ1_charAt_3b067 7 = .ok (.iload_n 1, 1) := by decide +kernel
theorem zjl8 : decode cJ1_charAt_3b067 8 = .ok (.baload, 1) := by decide +kernel
theorem zjl9 : decode cJ1_charAt_3b067 9 = .ok (.sipush 255, 3) := by decide +kernel
theorem zjl12 : decode cJ1_charAt_3b067 12 = .ok (.iand, 1) := by decide +kernel
theorem zjl13 : decode cJ1_charAt_3b067 13 = .ok (.i2c, 1) := by decide +kernel
theorem zjl14 : decode cJ1_charAt_3b067 14 = .ok (.ireturn, 1) := by decide +kernel
theorem zjs0 : decode cJ0_checkIndex_df160 0 = .ok (.iload_n 0, 1) := by decide +kernel
theorem zjs1 : decode cJ0_checkIndex_df160 1 = .ok (.iload_n 1, 1) := by decide +kernel
theorem zjs2 : decode cJ0_checkIndex_df160 2 = .ok (.getstatic 1053, 3) := by decide +kernel
theorem zjs5 : decode cJ0_checkIndex_df160 5 = .ok (.invokestatic 1059, 3) := by decide +kernel
theorem zjs8 : decode cJ0_checkIndex_df160 8 = .ok (.pop, 1) := by decide +kernel
theorem zjs9 : decode cJ0_checkIndex_df160 9 = .ok (.return_, 1) := by decide +kernel
theorem zjp0 : decode cJ3_checkIndex_8e157 0 = .ok (.iload_n 0, 1) := by decide +kernel
theorem zjp1 : decode cJ3_checkIndex_8e157 1 = .ok (.ifCond .lt 8, 3) := by decide +kernel
theorem zjp4 : decode cJ3_checkIndex_8e157 4 = .ok (.iload_n 0, 1) := by decide +kernel
theorem zjp5 : decode cJ3_checkIndex_8e157 5 = .ok (.iload_n 1, 1) := by decide +kernel
theorem zjp6 : decode cJ3_checkIndex_8e157 6 = .ok (.if_icmp .lt 10, 3) := by decide +kernel
theorem zjp16 : decode cJ3_checkIndex_8e157 16 = .ok (.iload_n 0, 1) := by decide +kernel
theorem zjp17 : decode cJ3_checkIndex_8e157 17 = .ok (.ireturn, 1) := by decide +kernel
theorem zchr_l1 : ∀ i, i < 8 → ∀ k, k < zlens.getD i 0 → ((((zbyts.getD i []).getD (Int32.ofNat k).toNatClampNeg 0) &&& (255 : Int32)).toUInt32 % 65536).toInt32 = zchr i k := by decide +kernel
theorem zchr_nw : ∀ i, i < 8 → ∀ k, k < zlens.getD i 0 → narrow .char (.int (zchr i k)) = .int (zchr i k) := by decide +kernel
theorem zchr_in : ∀ i, i < 8 → ∀ k, k < zlens.getD i 0 → ¬ Int32.ofNat k < 0 ∧ Int32.ofNat k < Int32.ofNat (zlens.getD i 0) ∧ ¬ zlens.getD i 0 ≤ (Int32.ofNat k).toNatClampNeg := by decide +kernel
section
variable {p : Program} {l : Launch} {e : Env} {R : Room} {s : State} {m : MethodId} {args : Array Value} {below : List Frame} {meth : Method} {c : Code} {Q : State → Prop}
variable {ext : Nat → Option Nat} {D : va_G} {ct : Nat → ClassId} {A : Nat → Prop}
/-- after a call, the locals as they were -/
theorem z_afterK {post : Option zV → zH → Bool} {a : Array Value} {pc : Nat} {ls : Array Slot} {stc rest : List Value} {H : Heap} {locs : List Loc} {ws : va_W} {nc ns mc ms : Nat}
    (hA : ∀ q, s.heap.size ≤ q → A q) (hD : va_D A ws) (hS : va_S A s.heap H locs)
    (hrun : va_Run p l e R s m args below meth c H locs nc ns mc ms (F0 m pc ls stc) rest (zQr ext D ct ws H.size post a) (va_A ws H.size))
    (kk : ∀ (r : Option zV) (h' : zH) (v : Option Value) (ws' : va_W) (H' : Heap) (locs' : List Loc), post r h' = true → zgo (zrho ws' ext) r v → zHp (zrho ws' ext) ct h' ws' → va_P D vwCl ws' H' → va_D A ws' → va_S A s.heap H' locs' → zPre ws ws' → W p l e R s m args below meth c H' locs' (nc + mc) (ns + ms) Q (F0 m (pc + 3) ls (v.toList ++ rest))) :
    W p l e R s m args below meth c H locs nc ns Q (F0 m pc ls stc) := by
  have hfree : ∀ q, va_A ws H.size q → A q := va_free hD hS hA (List.range ws.length) (by
    apply List.ext_getElem?
    intro i
    by_cases hi : i < ws.length
    · simp [hi]
    · simp [Nat.not_lt.mp hi])
  intro T hT X
  obtain ⟨v, st₀, t, T', L1, h0, X', hL1, e1, e2, ⟨⟨r, h', v', ws', hp, ho, hg, hH, hP', hD', hpr⟩, hz, hk⟩, st⟩ := hrun T hT X
  cases ho
  rw [h0] at hz hk
  obtain ⟨t2, a1, b1⟩ := kk r h' v ws' T'.heap (locs ++ L1) hp hg hH (by rw [e1]; exact hP') (hD'.weaken (fun k q _ hq => hfree q.1 hq))
    ⟨Nat.le_trans hS.1 (by rw [e1]; exact hz), fun q h1 h2 => by
      rw [e1, hk q (Nat.lt_of_lt_of_le h1 hS.1) (fun z => h2 (hfree q z))]
      exact hS.2.1 q h1 h2, fun q hq => by
      rcases List.mem_append.mp hq with h3 | h3
      · exact hS.2.2 q h3
      · exact hfree _ (hL1 q h3)⟩ hpr T' rfl X'
  exact ⟨t2, st t2 a1, b1⟩
end
theorem z_isl {l : Launch} {zst : zSt} {TG TN : List Cond} {scr : List zV} {adK adV : Nat → Nat} {ext : Nat → Option Nat} {D : va_G} {ct : Nat → ClassId} (hG : zGood TG) (hTN : zTNok TN) (hw : ∀ w ∈ zslw, w ∈ TG) (hq : ∀ w ∈ zscx, w ∈ TG) (huw : ∀ w ∈ zuws, w ∈ TG) (n : Nat) {i : Nat} (hi : i < 8) (h : zH) (ws : va_W) (sz : Nat) (hH : zHp (zrho ws ext) ct h ws) :
    Met l zEil.1 (zWS TG zEil) (zrm zEil n) (va_Pc [.ref (adK i)] (zPcB zst TN scr adK adV ext D ct ws sz)) (zQr ext D ct ws sz (zpI 1 h)) 0 0 (va_A ws sz) := by
  refine Met.ofW (cc := cJ0_isLatin1_aae02) (maxL := 1) (ret := some .boolean) (by decide) rfl ?_
  intro p e s m args below meth c s₁ B hml hpv
  obtain ⟨rfl, hsz, hP, hK, hD0, hN, hF, h1, h2, h3⟩ := hpv
  subst hsz
  have hts := atoms_spec (ws := zWS TG zEil) B.pre
  have hlocks := B.notSynchronized
  have hx := B.exec
  have hb := B.bytes
  have hown : s.vm.findClass "java/lang/String" = some m.cls := findClass_of_methodNamed B.named
  have hS : va_S (va_A ws s.heap.size) s.heap s.heap [] := va_S.rf
  have hl := lv_entry [.ref (adK i)] (n := 1) (Nat.le_of_ble_eq_true rfl)
  rw [lg_entry_eq]
  generalize (lg_sl [.ref (adK i)] ++ List.replicate (1 - (lg_sl [.ref (adK i)]).length) Slot.unset).toArray = ls at hl ⊢
  have hl : lv_has ls 1 [(0, .ref (adK i))] := hl
  have hTG : ∀ w ∈ TG, w.before [.ref (adK i)].toArray s = true := fun w h => hts w (List.mem_cons_of_mem _ h)
  have hwt : ∀ w ∈ zslw, w.before [.ref (adK i)].toArray s = true := fun w h => hTG w (hw w h)
  have h5 : ∀ w ∈ zsc5, w ∈ TG := fun w h => hq w (List.mem_append_left _ h)
  have hA : ∀ q, s.heap.size ≤ q → va_A ws s.heap.size q := fun q hq => Or.inr hq
  refine va_gets hx hb (ref := "java/lang/String") hF.2.2.2.1 hS hown (hwt _ (by simp [zslw])) (fun x hx => hx) zji0 ?_
  refine lv_if_eq (tgt := 17) hx hb zji3 (by decide) (fun q => absurd q (by decide)) (fun _ => ?_)
  refine lv_aload_n hx hb zji6 rfl (lv_at hl 0 rfl) ?_
  refine vk_getf hx hb (ref := "java/lang/String") (hF.2.2.1.1 i hi).2.1 hS hown (hwt _ (by simp [zslw])) (fun x hx => hx) zji7 ?_
  refine lv_if_ne (tgt := 17) hx hb zji10 (by decide) (fun q => absurd rfl q) (fun _ => ?_)
  refine lv_iconst (v := 1) hx hb zji13 (by decide) ?_
  refine lv_goto (tgt := 18) hx hb zji14 (by decide) ?_
  exact W.zret (ty := .boolean) hx hb B.returns (by decide) (fun t ht _ => ⟨⟨some (.inl (.int 1)), h, some (.int 1), ws, by simp [zpI], rfl, rfl, hH, by rw [ht]; exact hP, hD0.self, zPre_rf ws⟩, by rw [ht]; exact Nat.le_refl _, fun q h8 h9 => by rw [ht]⟩) (fun q hq => by cases hq) zji18
theorem z_pidx0 {l : Launch} {zst : zSt} {TG TN : List Cond} {scr : List zV} {adK adV : Nat → Nat} {ext : Nat → Option Nat} {D : va_G} {ct : Nat → ClassId} (hG : zGood TG) (hTN : zTNok TN) (hw : ∀ w ∈ zslw, w ∈ TG) (hq : ∀ w ∈ zscx, w ∈ TG) (huw : ∀ w ∈ zuws, w ∈ TG) (n : Nat) {ik nn : Int32} (hk0 : ¬ ik < 0) (hk1 : ik < nn) (h : zH) (ws : va_W) (sz : Nat) (hH : zHp (zrho ws ext) ct h ws) :
    Met l zEpi.1 (zWS TG zEpi) (zrm zEpi n) (va_Pc [.int ik, .int nn, .null] (zPcB zst TN scr adK adV ext D ct ws sz)) (zQr ext D ct ws sz (zpI ik h)) 0 0 (va_A ws sz) := by
  refine Met.ofW (cc := cJ3_checkIndex_8e157) (maxL := 3) (ret := some .int) (by decide) rfl ?_
  intro p e s m args below meth c s₁ B hml hpv
  obtain ⟨rfl, hsz, hP, hK, hD0, hN, hF, h1, h2, h3⟩ := hpv
  subst hsz
  have hts := atoms_spec (ws := zWS TG zEpi) B.pre
  have hlocks := B.notSynchronized
  have hx := B.exec
  have hb := B.bytes
  have hown : s.vm.findClass "jdk/internal/util/Preconditions" = some m.cls := findClass_of_methodNamed B.named
  have hS : va_S (va_A ws s.heap.size) s.heap s.heap [] := va_S.rf
  have hl := lv_entry [.int ik, .int nn, .null] (n := 3) (Nat.le_of_ble_eq_true rfl)
  rw [lg_entry_eq]
  generalize (lg_sl [.int ik, .int nn, .null] ++ List.replicate (3 - (lg_sl [.int ik, .int nn, .null]).length) Slot.unset).toArray = ls at hl ⊢
  have hl : lv_has ls 3 [(0, .int ik), (1, .int nn), (2, .null)] := hl
  have hTG : ∀ w ∈ TG, w.before [.int ik, .int nn, .null].toArray s = true := fun w h => hts w (List.mem_cons_of_mem _ h)
  have hwt : ∀ w ∈ zslw, w.before [.int ik, .int nn, .null].toArray s = true := fun w h => hTG w (hw w h)
  have h5 : ∀ w ∈ zsc5, w ∈ TG := fun w h => hq w (List.mem_append_left _ h)
  have hA : ∀ q, s.heap.size ≤ q → va_A ws s.heap.size q := fun q hq => Or.inr hq
  refine lv_iload_n hx hb zjp0 rfl (lv_at hl 0 rfl) ?_
  refine lv_if_lt (tgt := 9) hx hb zjp1 (by decide) (fun q => absurd q hk0) (fun _ => ?_)
  refine lv_iload_n hx hb zjp4 rfl (lv_at hl 0 rfl) ?_
  refine lv_iload_n hx hb zjp5 rfl (lv_at hl 1 rfl) ?_
  refine lv_icmp_lt (tgt := 16) hx hb zjp6 (by decide) (fun _ => ?_) (fun q => absurd hk1 q)
  refine lv_iload_n hx hb zjp16 rfl (lv_at hl 0 rfl) ?_
  exact W.iret hx hb B.returns (fun t ht _ => ⟨⟨some (.inl (.int ik)), h, some (.int ik), ws, by simp [zpI], rfl, rfl, hH, by rw [ht]; exact hP, hD0.self, zPre_rf ws⟩, by rw [ht]; exact Nat.le_refl _, fun q h8 h9 => by rw [ht]⟩) (fun q hq => by cases hq) zjp17
theorem z_pidx1 {l : Launch} {zst : zSt} {TG TN : List Cond} {scr : List zV} {adK adV : Nat → Nat} {ext : Nat → Option Nat} {D : va_G} {ct : Nat → ClassId} (hG : zGood TG) (hTN : zTNok TN) (hw : ∀ w ∈ zslw, w ∈ TG) (hq : ∀ w ∈ zscx, w ∈ TG) (huw : ∀ w ∈ zuws, w ∈ TG) (n : Nat) {ik nn : Int32} {t : Nat} (hk0 : ¬ ik < 0) (hk1 : ik < nn) (h : zH) (ws : va_W) (sz : Nat) (hH : zHp (zrho ws ext) ct h ws) :
    Met l zEpi.1 (zWS TG zEpi) (zrm zEpi n) (va_Pc [.int ik, .int nn, .ref t] (zPcB zst TN scr adK adV ext D ct ws sz)) (zQr ext D ct ws sz (zpI ik h)) 0 0 (va_A ws sz) := by
  refine Met.ofW (cc := cJ3_checkIndex_8e157) (maxL := 3) (ret := some .int) (by decide) rfl ?_
  intro p e s m args below meth c s₁ B hml hpv
  obtain ⟨rfl, hsz, hP, hK, hD0, hN, hF, h1, h2, h3⟩ := hpv
  subst hsz
  have hts := atoms_spec (ws := zWS TG zEpi) B.pre
  have hlocks := B.notSynchronized
  have hx := B.exec
  have hb := B.bytes
  have hown : s.vm.findClass "jdk/internal/util/Preconditions" = some m.cls := findClass_of_methodNamed B.named
  have hS : va_S (va_A ws s.heap.size) s.heap s.heap [] := va_S.rf
  have hl := lv_entry [.int ik, .int nn, .ref t] (n := 3) (Nat.le_of_ble_eq_true rfl)
  rw [lg_entry_eq]
  generalize (lg_sl [.int ik, .int nn, .ref t] ++ List.replicate (3 - (lg_sl [.int ik, .int nn, .ref t]).length) Slot.unset).toArray = ls at hl ⊢
  have hl : lv_has ls 3 [(0, .int ik), (1, .int nn), (2, .ref t)] := hl
  have hTG : ∀ w ∈ TG, w.before [.int ik, .int nn, .ref t].toArray s = true := fun w h => hts w (List.mem_cons_of_mem _ h)
  have hwt : ∀ w ∈ zslw, w.before [.int ik, .int nn, .ref t].toArray s = true := fun w h => hTG w (hw w h)
  have h5 : ∀ w ∈ zsc5, w ∈ TG := fun w h => hq w (List.mem_append_left _ h)
  have hA : ∀ q, s.heap.size ≤ q → va_A ws s.heap.size q := fun q hq => Or.inr hq
  refine lv_iload_n hx hb zjp0 rfl (lv_at hl 0 rfl) ?_
  refine lv_if_lt (tgt := 9) hx hb zjp1 (by decide) (fun q => absurd q hk0) (fun _ => ?_)
  refine lv_iload_n hx hb zjp4 rfl (lv_at hl 0 rfl) ?_
  refine lv_iload_n hx hb zjp5 rfl (lv_at hl 1 rfl) ?_
  refine lv_icmp_lt (tgt := 16) hx hb zjp6 (by decide) (fun _ => ?_) (fun q => absurd hk1 q)
  refine lv_iload_n hx hb zjp16 rfl (lv_at hl 0 rfl) ?_
  exact W.iret hx hb B.returns (fun t ht _ => ⟨⟨some (.inl (.int ik)), h, some (.int ik), ws, by simp [zpI], rfl, rfl, hH, by rw [ht]; exact hP, hD0.self, zPre_rf ws⟩, by rw [ht]; exact Nat.le_refl _, fun q h8 h9 => by rw [ht]⟩) (fun q hq => by cases hq) zjp17
theorem z_sidx {l : Launch} {zst : zSt} {TG TN : List Cond} {scr : List zV} {adK adV : Nat → Nat} {ext : Nat → Option Nat} {D : va_G} {ct : Nat → ClassId} (hG : zGood TG) (hTN : zTNok TN) (hw : ∀ w ∈ zslw, w ∈ TG) (hq : ∀ w ∈ zscx, w ∈ TG) (huw : ∀ w ∈ zuws, w ∈ TG) (n : Nat) {ik nn : Int32} (hk0 : ¬ ik < 0) (hk1 : ik < nn) (h : zH) (ws : va_W) (sz : Nat) (hH : zHp (zrho ws ext) ct h ws) :
    Met l zEci.1 (zWS TG zEci) (zrm zEci (n + 1)) (va_Pc [.int ik, .int nn] (zPcB zst TN scr adK adV ext D ct ws sz)) (zQr ext D ct ws sz (zpN h)) 0 0 (va_A ws sz) := by
  refine Met.ofW (cc := cJ0_checkIndex_df160) (maxL := 2) (ret := none) (by decide) rfl ?_
  intro p e s m args below meth c s₁ B hml hpv
  obtain ⟨rfl, hsz, hP, hK, hD0, hN, hF, h1, h2, h3⟩ := hpv
  subst hsz
  have hts := atoms_spec (ws := zWS TG zEci) B.pre
  have hlocks := B.notSynchronized
  have hx := B.exec
  have hb := B.bytes
  have hown : s.vm.findClass "java/lang/String" = some m.cls := findClass_of_methodNamed B.named
  have hS : va_S (va_A ws s.heap.size) s.heap s.heap [] := va_S.rf
  have hl := lv_entry [.int ik, .int nn] (n := 2) (Nat.le_of_ble_eq_true rfl)
  rw [lg_entry_eq]
  generalize (lg_sl [.int ik, .int nn] ++ List.replicate (2 - (lg_sl [.int ik, .int nn]).length) Slot.unset).toArray = ls at hl ⊢
  have hl : lv_has ls 2 [(0, .int ik), (1, .int nn)] := hl
  have hTG : ∀ w ∈ TG, w.before [.int ik, .int nn].toArray s = true := fun w h => hts w (List.mem_cons_of_mem _ h)
  have hwt : ∀ w ∈ zslw, w.before [.int ik, .int nn].toArray s = true := fun w h => hTG w (hw w h)
  have h5 : ∀ w ∈ zsc5, w ∈ TG := fun w h => hq w (List.mem_append_left _ h)
  have hA : ∀ q, s.heap.size ≤ q → va_A ws s.heap.size q := fun q hq => Or.inr hq
  have C : zCx p (zrm zEci (n + 1)) s m [Value.int ik, .int nn].toArray meth c (fun _ => none) zst TG TN scr adK adV ext D ct (va_A ws s.heap.size) zEci 0 0 (n) :=
    ⟨hx, hb, hml, hown, hTG, fun q => absurd q (by decide), hK, hN, hF, h1, h2, h3, fun q hq => Or.inr hq, Nat.le_refl _, Nat.le_refl _, Nat.le_refl _, Nat.le_refl _, fun pc i hi => (by cases hi), huw⟩
  have hm_zEpi : ∀ w ∈ zmwords zEpi, w ∈ TG := fun w h => hq w (List.mem_append_right _ (List.mem_append_right _ (List.mem_append_right _ (List.mem_append_right _ h))))
  rcases hF.2.2.2.2.2.2 with hZ | ⟨t, hZ⟩
  · refine lv_iload_n hx hb zjs0 rfl (lv_at hl 0 rfl) ?_
    refine lv_iload_n hx hb zjs1 rfl (lv_at hl 1 rfl) ?_
    refine va_gets hx hb (ref := "jdk/internal/util/Preconditions") hZ hS hown (hTG _ (h5 _ (by simp [zsc5]))) (fun x hx => hx) zjs2 ?_
    have hpc : ∀ U : State, U.heap = s.heap → s.WarmedH U.vm → va_Pc [Value.int ik, .int nn, Value.null] (zPcB zst TN scr adK adV ext D ct ws (s.heap).size) ([Value.int ik, .int nn, Value.null]).toArray U := fun U hU hW => ⟨rfl, zPcB_at C hTN hP hD0.self hS hU hW⟩
    refine z_afterK (e := e) (post := zpI ik h) (mc := 0) (ms := 0) hA hD0.self hS (va_runS (As := [Value.int ik, .int nn, Value.null]) (n := 3) (nL := 2) ⟨hx, hb, hml, hown, hTG⟩ (z_pidx0 hG hTN hw hq huw n hk0 hk1 h ws s.heap.size hH) ⟨z_cb C hG hm_zEpi (by decide +kernel) (h5 _ (by simp [zsc5, yJ0_checkIndex_df160, yJ1_charAt_3b067, yJ0_isLatin1_aae02, yJ3_checkIndex_8e157, RJ0, RJ1, RJ3])), hTG _ ((z_mw hm_zEpi).2.2.1 rfl)⟩ ⟨zPcB_blind hTN, hpc⟩ rfl rfl hl.1 rfl (lv_room (by first | exact Nat.zero_le _ | decide)) zjs5 ⟨by show 0 + 0 ≤ 0; omega, by show 0 + 0 ≤ 0; omega⟩) (fun r9 h9 v9 ws2 H2 locs2 hp9 hg9 hH2 hP2 hD2 hS2 hpr2 => ?_)
    obtain ⟨p1, p2⟩ := z_and hp9
    have p1 := of_decide_eq_true p1
    have p2 := of_decide_eq_true p2
    subst p1
    subst p2
    cases v9 with
    | none => exact hg9.elim
    | some w9 =>
      cases hg9
      refine lv_pop hx hb zjs8 rfl ?_
      exact W.vret hx hb B.returns (fun t ht _ => ⟨⟨none, h9, none, ws2, by simp [zpN], rfl, trivial, hH2, by rw [ht]; exact hP2, hD2, hpr2⟩, by rw [ht]; exact hS2.1, fun q h8 h9 => by rw [ht]; exact hS2.2.1 q h8 h9⟩) hS2.2.2 zjs9
  · refine lv_iload_n hx hb zjs0 rfl (lv_at hl 0 rfl) ?_
    refine lv_iload_n hx hb zjs1 rfl (lv_at hl 1 rfl) ?_
    refine va_gets hx hb (ref := "jdk/internal/util/Preconditions") hZ hS hown (hTG _ (h5 _ (by simp [zsc5]))) (fun x hx => hx) zjs2 ?_
    have hpc : ∀ U : State, U.heap = s.heap → s.WarmedH U.vm → va_Pc [Value.int ik, .int nn, Value.ref t] (zPcB zst TN scr adK adV ext D ct ws (s.heap).size) ([Value.int ik, .int nn, Value.ref t]).toArray U := fun U hU hW => ⟨rfl, zPcB_at C hTN hP hD0.self hS hU hW⟩
    refine z_afterK (e := e) (post := zpI ik h) (mc := 0) (ms := 0) hA hD0.self hS (va_runS (As := [Value.int ik, .int nn, Value.ref t]) (n := 3) (nL := 2) ⟨hx, hb, hml, hown, hTG⟩ (z_pidx1 hG hTN hw hq huw n hk0 hk1 h ws s.heap.size hH) ⟨z_cb C hG hm_zEpi (by decide +kernel) (h5 _ (by simp [zsc5, yJ0_checkIndex_df160, yJ1_charAt_3b067, yJ0_isLatin1_aae02, yJ3_checkIndex_8e157, RJ0, RJ1, RJ3])), hTG _ ((z_mw hm_zEpi).2.2.1 rfl)⟩ ⟨zPcB_blind hTN, hpc⟩ rfl rfl hl.1 rfl (lv_room (by first | exact Nat.zero_le _ | decide)) zjs5 ⟨by show 0 + 0 ≤ 0; omega, by show 0 + 0 ≤ 0; omega⟩) (fun r9 h9 v9 ws2 H2 locs2 hp9 hg9 hH2 hP2 hD2 hS2 hpr2 => ?_)
    obtain ⟨p1, p2⟩ := z_and hp9
    have p1 := of_decide_eq_true p1
    have p2 := of_decide_eq_true p2
    subst p1
    subst p2
    cases v9 with
    | none => exact hg9.elim
    | some w9 =>
      cases hg9
      refine lv_pop hx hb zjs8 rfl ?_
      exact W.vret hx hb B.returns (fun t ht _ => ⟨⟨none, h9, none, ws2, by simp [zpN], rfl, trivial, hH2, by rw [ht]; exact hP2, hD2, hpr2⟩, by rw [ht]; exact hS2.1, fun q h8 h9 => by rw [ht]; exact hS2.2.1 q h8 h9⟩) hS2.2.2 zjs9
theorem z_l1 {l : Launch} {zst : zSt} {TG TN : List Cond} {scr : List zV} {adK adV : Nat → Nat} {ext : Nat → Option Nat} {D : va_G} {ct : Nat → ClassId} (hG : zGood TG) (hTN : zTNok TN) (hw : ∀ w ∈ zslw, w ∈ TG) (hq : ∀ w ∈ zscx, w ∈ TG) (huw : ∀ w ∈ zuws, w ∈ TG) (n : Nat) {i k : Nat} (hi : i < 8) (hk : k < zlens.getD i 0) (h : zH) (ws : va_W) (sz : Nat) (hH : zHp (zrho ws ext) ct h ws) :
    Met l zEl1.1 (zWS TG zEl1) (zrm zEl1 (n + 2)) (va_Pc [.ref (adV i), .int (Int32.ofNat k)] (zPcB zst TN scr adK adV ext D ct ws sz)) (zQr ext D ct ws sz (zpI (zchr i k) h)) 0 0 (va_A ws sz) := by
  refine Met.ofW (cc := cJ1_charAt_3b067) (maxL := 2) (ret := some .char) (by decide) rfl ?_
  intro p e s m args below meth c s₁ B hml hpv
  obtain ⟨rfl, hsz, hP, hK, hD0, hN, hF, h1, h2, h3⟩ := hpv
  subst hsz
  have hts := atoms_spec (ws := zWS TG zEl1) B.pre
  have hlocks := B.notSynchronized
  have hx := B.exec
  have hb := B.bytes
  have hown : s.vm.findClass "java/lang/StringLatin1" = some m.cls := findClass_of_methodNamed B.named
  have hS : va_S (va_A ws s.heap.size) s.heap s.heap [] := va_S.rf
  have hl := lv_entry [.ref (adV i), .int (Int32.ofNat k)] (n := 2) (Nat.le_of_ble_eq_true rfl)
  rw [lg_entry_eq]
  generalize (lg_sl [.ref (adV i), .int (Int32.ofNat k)] ++ List.replicate (2 - (lg_sl [.ref (adV i), .int (Int32.ofNat k)]).length) Slot.unset).toArray = ls at hl ⊢
  have hl : lv_has ls 2 [(0, .ref (adV i)), (1, .int (Int32.ofNat k))] := hl
  have hTG : ∀ w ∈ TG, w.before [.ref (adV i), .int (Int32.ofNat k)].toArray s = true := fun w h => hts w (List.mem_cons_of_mem _ h)
  have hwt : ∀ w ∈ zslw, w.before [.ref (adV i), .int (Int32.ofNat k)].toArray s = true := fun w h => hTG w (hw w h)
  have h5 : ∀ w ∈ zsc5, w ∈ TG := fun w h => hq w (List.mem_append_left _ h)
  have hA : ∀ q, s.heap.size ≤ q → va_A ws s.heap.size q := fun q hq => Or.inr hq
  have C : zCx p (zrm zEl1 (n + 2)) s m [Value.ref (adV i), .int (Int32.ofNat k)].toArray meth c (fun _ => none) zst TG TN scr adK adV ext D ct (va_A ws s.heap.size) zEl1 0 0 (n + 1) :=
    ⟨hx, hb, hml, hown, hTG, fun q => absurd q (by decide), hK, hN, hF, h1, h2, h3, fun q hq => Or.inr hq, Nat.le_refl _, Nat.le_refl _, Nat.le_refl _, Nat.le_refl _, fun pc i hi => (by cases hi), huw⟩
  have hm_zEci : ∀ w ∈ zmwords zEci, w ∈ TG := fun w h => hq w (List.mem_append_right _ (List.mem_append_right _ (List.mem_append_right _ (List.mem_append_left _ h))))
  obtain ⟨s1, s2, s3, s4⟩ := hF.2.2.1.1 i hi
  obtain ⟨c1, c2, c3⟩ := zchr_in i hi k hk
  refine lv_iload_n hx hb zjl0 rfl (lv_at hl 1 rfl) ?_
  refine lv_aload_n hx hb zjl1 rfl (lv_at hl 0 rfl) ?_
  refine va_tlen hx hb s4 hS rfl zjl2 ?_
  have hpc : ∀ U : State, U.heap = s.heap → s.WarmedH U.vm → va_Pc [Value.int (Int32.ofNat k), .int (Int32.ofNat (zlens.getD i 0))] (zPcB zst TN scr adK adV ext D ct ws (s.heap).size) ([Value.int (Int32.ofNat k), .int (Int32.ofNat (zlens.getD i 0))]).toArray U := fun U hU hW => ⟨rfl, zPcB_at C hTN hP hD0.self hS hU hW⟩
  refine z_afterK (e := e) (post := zpN h) (mc := 0) (ms := 0) hA hD0.self hS (va_runS (As := [Value.int (Int32.ofNat k), .int (Int32.ofNat (zlens.getD i 0))]) (n := 2) (nL := 2) ⟨hx, hb, hml, hown, hTG⟩ (z_sidx hG hTN hw hq huw n c1 c2 h ws s.heap.size hH) ⟨z_cb C hG hm_zEci (by decide +kernel) (h5 _ (by simp [zsc5, yJ0_checkIndex_df160, yJ1_charAt_3b067, yJ0_isLatin1_aae02, yJ3_checkIndex_8e157, RJ0, RJ1, RJ3])), hTG _ ((z_mw hm_zEci).2.2.1 rfl)⟩ ⟨zPcB_blind hTN, hpc⟩ rfl rfl hl.1 rfl (lv_room (by first | exact Nat.zero_le _ | decide)) zjl3 ⟨by show 0 + 0 ≤ 0; omega, by show 0 + 0 ≤ 0; omega⟩) (fun r9 h9 v9 ws2 H2 locs2 hp9 hg9 hH2 hP2 hD2 hS2 hpr2 => ?_)
  obtain ⟨p1, p2⟩ := z_and hp9
  have p1 := of_decide_eq_true p1
  have p2 := of_decide_eq_true p2
  subst p1
  subst p2
  cases v9 with
  | some w9 => exact hg9.elim
  | none =>
    refine lv_aload_n hx hb zjl6 rfl (lv_at hl 0 rfl) ?_
    refine lv_iload_n hx hb zjl7 rfl (lv_at hl 1 rfl) ?_
    refine va_tb hx hb s4 hS2 (fun q => q.elim c1 c3) rfl zjl8 ?_
    refine lv_sipush (v := 255) hx hb zjl9 (by decide) ?_
    refine lv_iand hx hb zjl12 ?_
    refine lv_i2c (v := zchr i k) hx hb zjl13 (zchr_l1 i hi k hk) ?_
    exact W.zret (ty := .char) hx hb B.returns (zchr_nw i hi k hk) (fun t ht _ => ⟨⟨some (.inl (.int (zchr i k))), h9, some (.int (zchr i k)), ws2, by simp [zpI], rfl, rfl, hH2, by rw [ht]; exact hP2, hD2, hpr2⟩, by rw [ht]; exact hS2.1, fun q h8 h9 => by rw [ht]; exact hS2.2.1 q h8 h9⟩) hS2.2.2 zjl14
theorem z_schar {l : Launch} {zst : zSt} {TG TN : List Cond} {scr : List zV} {adK adV : Nat → Nat} {ext : Nat → Option Nat} {D : va_G} {ct : Nat → ClassId} (hG : zGood TG) (hTN : zTNok TN) (hw : ∀ w ∈ zslw, w ∈ TG) (hq : ∀ w ∈ zscx, w ∈ TG) (huw : ∀ w ∈ zuws, w ∈ TG) (n : Nat) : zSC l zst TG TN scr adK adV ext D ct (n + 3) := by
  intro i k hi hk h ws sz hH
  refine Met.ofW (cc := cJ0_charAt_5068e) (maxL := 2) (ret := some .char) (by decide) rfl ?_
  intro p e s m args below meth c s₁ B hml hpv
  obtain ⟨rfl, hsz, hP, hK, hD0, hN, hF, h1, h2, h3⟩ := hpv
  subst hsz
  have hts := atoms_spec (ws := zWS TG zESC) B.pre
  have hlocks := B.notSynchronized
  have hx := B.exec
  have hb := B.bytes
  have hown : s.vm.findClass "java/lang/String" = some m.cls := findClass_of_methodNamed B.named
  have hS : va_S (va_A ws s.heap.size) s.heap s.heap [] := va_S.rf
  have hl := lv_entry [.ref (adK i), .int (Int32.ofNat k)] (n := 2) (Nat.le_of_ble_eq_true rfl)
  rw [lg_entry_eq]
  generalize (lg_sl [.ref (adK i), .int (Int32.ofNat k)] ++ List.replicate (2 - (lg_sl [.ref (adK i), .int (Int32.ofNat k)]).length) Slot.unset).toArray = ls at hl ⊢
  have hl : lv_has ls 2 [(0, .ref (adK i)), (1, .int (Int32.ofNat k))] := hl
  have hTG : ∀ w ∈ TG, w.before [.ref (adK i), .int (Int32.ofNat k)].toArray s = true := fun w h => hts w (List.mem_cons_of_mem _ h)
  have hwt : ∀ w ∈ zslw, w.before [.ref (adK i), .int (Int32.ofNat k)].toArray s = true := fun w h => hTG w (hw w h)
  have h5 : ∀ w ∈ zsc5, w ∈ TG := fun w h => hq w (List.mem_append_left _ h)
  have hA : ∀ q, s.heap.size ≤ q → va_A ws s.heap.size q := fun q hq => Or.inr hq
  have C : zCx p (zrm zESC (n + 3)) s m [Value.ref (adK i), .int (Int32.ofNat k)].toArray meth c (fun _ => none) zst TG TN scr adK adV ext D ct (va_A ws s.heap.size) zESC 0 0 (n + 2) :=
    ⟨hx, hb, hml, hown, hTG, fun q => absurd q (by decide), hK, hN, hF, h1, h2, h3, fun q hq => Or.inr hq, Nat.le_refl _, Nat.le_refl _, Nat.le_refl _, Nat.le_refl _, fun pc i hi => (by cases hi), huw⟩
  have hm_zEil : ∀ w ∈ zmwords zEil, w ∈ TG := fun w h => hq w (List.mem_append_right _ (List.mem_append_left _ h))
  have hm_zEl1 : ∀ w ∈ zmwords zEl1, w ∈ TG := fun w h => hq w (List.mem_append_right _ (List.mem_append_right _ (List.mem_append_left _ h)))
  obtain ⟨s1, s2, s3, s4⟩ := hF.2.2.1.1 i hi
  refine lv_aload_n hx hb zja0 rfl (lv_at hl 0 rfl) ?_
  have cbI : CallB (zrm zESC (n + 3)) s [Value.ref (adK i), .int (Int32.ofNat k)].toArray "java/lang/String" 492 yJ0_isLatin1_aae02 cJ0_isLatin1_aae02 1 (some .boolean) (zWS TG zEil) (zrm zEil (n + 2)) 0 0 0 := by
    refine ⟨rfl, rfl, Nat.le_refl _, by show 8 + (1 + 11) + 60 * (n + 2 + 1) ≤ 60 * (n + 3 + 1); omega, z_pay C hG hm_zEil, List.mem_cons_self, hTG _ (z_mw hm_zEil).1, hTG _ (z_mw hm_zEil).2.1, ⟨by decide, by decide⟩, fun sig h => ?_, hTG _ (h5 _ (by simp [zsc5]))⟩
    have h9 : (parseMethodDescriptor yJ0_isLatin1_aae02.desc).map (fun d => d.parameters.length) = some 0 := by decide +kernel
    rw [h] at h9
    exact (Option.some.inj h9).symm
  have hpc : ∀ U : State, U.heap = s.heap → s.WarmedH U.vm → va_Pc [Value.ref (adK i)] (zPcB zst TN scr adK adV ext D ct ws (s.heap).size) ([Value.ref (adK i)]).toArray U := fun U hU hW => ⟨rfl, zPcB_at C hTN hP hD0.self hS hU hW⟩
  refine z_afterK (e := e) (post := zpI 1 h) (mc := 0) (ms := 0) hA hD0.self hS (va_runV (As := []) (n := 0) (C := "java/lang/String") (nL := 2) ⟨hx, hb, hml, hown, hTG⟩ (z_isl hG hTN hw hq huw (n + 2) hi h ws s.heap.size hH) ⟨cbI, hTG _ ((z_mw hm_zEil).2.2.2 (by decide)).1, hTG _ (((z_mw hm_zEil).2.2.2 (by decide)).2 (by decide))⟩ ⟨zPcB_blind hTN, vk_recv hF.2.2.1 hi hS, hpc⟩ rfl rfl hl.1 rfl (lv_room (by first | exact Nat.zero_le _ | decide)) zja1 ⟨by show 0 + 0 ≤ 0; omega, by show 0 + 0 ≤ 0; omega⟩) (fun r9 h9 v9 ws2 H2 locs2 hp9 hg9 hH2 hP2 hD2 hS2 hpr2 => ?_)
  obtain ⟨p1, p2⟩ := z_and hp9
  have p1 := of_decide_eq_true p1
  have p2 := of_decide_eq_true p2
  subst p1
  subst p2
  cases v9 with
  | none => exact hg9.elim
  | some w9 =>
    cases hg9
    refine lv_if_eq (tgt := 16) hx hb zja4 (by decide) (fun q => absurd q (by decide)) (fun _ => ?_)
    refine lv_aload_n hx hb zja7 rfl (lv_at hl 0 rfl) ?_
    refine vk_getf hx hb (ref := "java/lang/String") s3 hS2 hown (hwt _ (by simp [zslw])) (fun x hx => hx) zja8 ?_
    refine lv_iload_n hx hb zja11 rfl (lv_at hl 1 rfl) ?_
    have hpc2 : ∀ U : State, U.heap = H2 → s.WarmedH U.vm → va_Pc [Value.ref (adV i), .int (Int32.ofNat k)] (zPcB zst TN scr adK adV ext D ct ws2 (H2).size) ([Value.ref (adV i), .int (Int32.ofNat k)]).toArray U := fun U hU hW => ⟨rfl, zPcB_at C hTN hP2 hD2 hS2 hU hW⟩
    refine z_afterK (e := e) (post := zpI (zchr i k) h9) (mc := 0) (ms := 0) hA hD2 hS2 (va_runS (As := [Value.ref (adV i), .int (Int32.ofNat k)]) (n := 2) (nL := 2) ⟨hx, hb, hml, hown, hTG⟩ (z_l1 hG hTN hw hq huw n hi hk h9 ws2 H2.size hH2) ⟨z_cb C hG hm_zEl1 (by decide +kernel) (h5 _ (by simp [zsc5, yJ0_checkIndex_df160, yJ1_charAt_3b067, yJ0_isLatin1_aae02, yJ3_checkIndex_8e157, RJ0, RJ1, RJ3])), hTG _ ((z_mw hm_zEl1).2.2.1 rfl)⟩ ⟨zPcB_blind hTN, hpc2⟩ rfl rfl hl.1 rfl (lv_room (by first | exact Nat.zero_le _ | decide)) zja12 ⟨by show 0 + 0 ≤ 0; omega, by show 0 + 0 ≤ 0; omega⟩) (fun r8 h8 v8 ws3 H3 locs3 hp8 hg8 hH3 hP3 hD3 hS3 hpr3 => ?_)
    obtain ⟨p1, p2⟩ := z_and hp8
    have p1 := of_decide_eq_true p1
    have p2 := of_decide_eq_true p2
    subst p1
    subst p2
    cases v8 with
    | none => exact hg8.elim
    | some w8 =>
      cases hg8
      exact W.zret (ty := .char) hx hb B.returns (zchr_nw i hi k hk) (fun t ht _ => ⟨⟨some (.inl (.int (zchr i k))), h8, some (.int (zchr i k)), ws3, by simp, rfl, rfl, hH3, by rw [ht]; exact hP3, hD3, zPre_tr hpr2 hpr3⟩, by rw [ht]; exact hS3.1, fun q h8 h9 => by rw [ht]; exact hS3.2.1 q h8 h9⟩) hS3.2.2 zja15
