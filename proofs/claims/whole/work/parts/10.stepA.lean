theorem zfit3 {v : zV} (h : zfit 3 v = true) : ∃ x : Int32, v = .inl (.int x) ∧ (x = 0 ∨ x = 1) := by
  rcases v with (x | x | x | x | _ | x | x) | ⟨_ | _, lo, hi2⟩
  · refine ⟨x, rfl, ?_⟩
    rcases (Bool.or_eq_true _ _).mp (show (x == 0 || x == 1) = true from h) with h5 | h5
    · exact Or.inl (by simpa using h5)
    · exact Or.inr (by simpa using h5)
  · exact absurd h Bool.false_ne_true
  · exact absurd h Bool.false_ne_true
  · exact absurd h Bool.false_ne_true
  · exact absurd h Bool.false_ne_true
  · exact absurd h Bool.false_ne_true
  · exact absurd h Bool.false_ne_true
  · exact absurd h Bool.false_ne_true
  · exact absurd h Bool.false_ne_true
theorem z_nf {ρ : Nat → Option Nat} {k : Nat} {ty : FieldType} {v : zV} {w : Value} (h1 : zkt k ty = true) (h2 : zfit k v = true) (h3 : zg ρ v w) : narrow ty w = w ∧ fits ty w = true := by
  match k, ty, h1 with
  | 0, .int, _ =>
    obtain ⟨x, rfl, -⟩ := zg_I h3 h2
    exact ⟨rfl, rfl⟩
  | 1, .long, _ =>
    obtain ⟨x, rfl, -⟩ := zg_L h3 h2
    exact ⟨rfl, rfl⟩
  | 2, .object n, _ =>
    rcases zg_R h3 h2 with ⟨-, rfl⟩ | ⟨k, a, -, -, rfl⟩ <;> exact ⟨rfl, rfl⟩
  | 2, .array t, _ =>
    rcases zg_R h3 h2 with ⟨-, rfl⟩ | ⟨k, a, -, -, rfl⟩ <;> exact ⟨rfl, rfl⟩
  | 3, .boolean, _ =>
    obtain ⟨x, rfl, hx⟩ := zfit3 h2
    rw [show w = .int x from h3]
    rcases hx with rfl | rfl
    · exact ⟨by decide, by decide⟩
    · exact ⟨by decide, by decide⟩
theorem z_tyok : ∀ a, a < 6 → ∀ k, k < zNf a → zTy a k ≠ .float ∧ zTy a k ≠ .double := by decide +kernel
theorem z_dfv (ρ : Nat → Option Nat) {ty : FieldType} (h : ty ≠ .float ∧ ty ≠ .double) : zg ρ (zdef ty) (defaultValue ty) := by
  cases ty <;> first | exact rfl | exact absurd rfl h.1 | exact absurd rfl h.2
theorem z_L2map {ρ : Nat → Option Nat} {f : Nat → zV} {g : Nat → Value} : ∀ (l : List Nat), (∀ k ∈ l, zg ρ (f k) (g k)) → zL2 ρ (l.map f) (l.map g)
  | [], _ => trivial
  | k :: l, h => ⟨h k List.mem_cons_self, z_L2map l (fun j hj => h j (List.mem_cons_of_mem _ hj))⟩
theorem z_ctu {s : State} {D : va_G} {ct : Nat → ClassId} {t : Nat} {cA : ClassId} (ht : t < 6) (h1 : va_K D vwCl (ztys ct) s) (h2 : va_K D vwCl (ztys ct ++ [(cA, ztyA t)]) s) : cA = ct t := by
  have a1 := (h1.2 t _ (z_tys ct ht)).2
  have a2 := (h2.2 6 (cA, ztyA t) (by rfl)).2
  have key : ∀ (c : ClassId) (ty : FieldType), va_RA s c ty → s.vm.findClass ("[" ++ ty.toString) = some c := by
    intro c ty h
    cases ty <;> first | exact h | (obtain ⟨_, _, _, _, _, h⟩ := h; exact h)
  have b1 := key _ _ a1
  have b2 := key _ _ a2
  exact Option.some.inj (b2.symm.trans b1)
theorem zcpy_get {f g : List zV} {sp dp n j : Nat} {a : zV} (h1 : sp + n ≤ f.length) (h2 : dp + n ≤ g.length) (h : (zcpy f g sp dp n)[j]? = some a) : (dp ≤ j ∧ j < dp + n → f[sp + (j - dp)]? = some a) ∧ (¬ (dp ≤ j ∧ j < dp + n) → g[j]? = some a) := by
  unfold zcpy at h
  have e1 : (g.take dp).length = dp := by rw [List.length_take]; omega
  have e2 : ((f.drop sp).take n).length = n := by rw [List.length_take, List.length_drop]; omega
  refine ⟨fun hj => ?_, fun hj => ?_⟩
  · rw [List.getElem?_append_right (by omega), List.getElem?_append_left (by omega), List.getElem?_take, if_pos (by omega), List.getElem?_drop, e1] at h
    exact h
  · by_cases h3 : j < dp
    · rw [List.getElem?_append_left (by omega), List.getElem?_take, if_pos h3] at h
      exact h
    · rw [List.getElem?_append_right (by omega), List.getElem?_append_right (by omega), List.getElem?_drop, e1, e2, show dp + n + (j - dp - n) = j by omega] at h
      exact h
theorem zcpy_len {f g : List zV} {sp dp n : Nat} (h1 : sp + n ≤ f.length) (h2 : dp + n ≤ g.length) : (zcpy f g sp dp n).length = g.length := by
  unfold zcpy
  rw [List.length_append, List.length_append, List.length_take, List.length_take, List.length_drop, List.length_drop]
  omega
theorem zset_get {α : Type} {l : List α} {i j : Nat} {v a : α} (h : (l.set i v)[j]? = some a) : (j = i ∧ a = v) ∨ (j ≠ i ∧ l[j]? = some a) := by
  by_cases hj : j = i
  · subst hj
    have hl : j < l.length := by
      have := (List.getElem?_eq_some_iff.mp h).1
      simpa using this
    rw [List.getElem?_set_self hl] at h
    exact Or.inl ⟨rfl, (Option.some.inj h).symm⟩
  · rw [List.getElem?_set_ne (Ne.symm hj)] at h
    exact Or.inr ⟨hj, h⟩
theorem zdec_t {bs : ByteArray} {pc : Nat} {d lo hi : Int} {o : Array Int} (h : zdec bs pc (.tableswitch d lo hi o) = true) : ∃ len, decode bs pc = .ok (.tableswitch d lo hi o, len) := by
  unfold zdec at h
  split at h
  · next q1 q2 q3 q4 hq =>
    cases hq
    split at h
    · next q hq =>
      have h1 := of_decide_eq_true h
      obtain ⟨i, len⟩ := q
      cases h1
      exact ⟨len, hq⟩
    · cases h
  · next hq => exact absurd rfl (hq _ _ _ _)
def zglob : List Cond := [.instanceMethod objectInit, .code objectInit ⟨#[0xb1]⟩ 1 none, .native arraycopyName, .static arraycopyName, .initialized "java/lang/System", .static Lib.Math.min.name, .initialized "java/lang/Math", .code Lib.Math.min.name Lib.Math.min.code 2 (some .int), .static Lib.Math.max.name, .code Lib.Math.max.name Lib.Math.max.code 2 (some .int)]
theorem z_aald {p : Program} {l : Launch} {e : Env} {R : Room} {s : State} {m : MethodId} {args : Array Value} {below : List Frame} {meth : Method} {c : Code} {H : Heap} {locs : List Loc} {cells slots : Nat} {Q : State → Prop} {cc : ByteArray} {pc : Nat} {ls : Array Slot} {rest : List Value} {D : va_G} {cl : List vw_C} {a : Nat} {tys : List (ClassId × FieldType)} {ws : va_W} (hexec : p.tables.exec = Jvm.exec) (hb : c.code = cc) (hK : va_K D cl tys s) (hP : va_P D cl ws H) (q0 t0 : Nat) {cA : ClassId} {ty : FieldType} (hty : ty.isReference = true) {n : Nat} {f : Nat → Option Nat} (ha : ws[q0]? = some (a, .inl (cA, n, .inr (.inr (.inr (.inr f)))))) (ht : tys[t0]? = some (cA, ty)) {i : Int32} (hin : vp_in i n) (hdg : decode cc pc = .ok (.aaload, 1))
    (kk : W p l e R s m args below meth c H locs cells slots Q (F0 m (pc + 1) ls (va_rf (f i.toNatClampNeg) :: rest))) : W p l e R s m args below meth c H locs cells slots Q (F0 m pc ls (.int i :: .ref a :: rest)) := by
  have hlt : i.toNatClampNeg < n := Nat.not_le.mp fun q => hin (Or.inr q)
  exact W.aald (v := va_rf (f i.toNatClampNeg)) (ty := ty) hexec hb (hP q0 _ ha) ((hK.2 t0 _ ht).1 n (fun j => va_rf (f j))) hty (fun q => by cases q) (by show ¬ (i < 0 ∨ (arrV _ _ _).slots.size ≤ _); rw [arrV_size]; exact hin) (by show (arrV _ _ _).slots[_]? = _; rw [arrV_read _ _ hlt]) rfl rfl hdg kk
section
variable {p : Program} {l : Launch} {e : Env} {R : Room} {s : State} {m : MethodId} {args : Array Value} {below : List Frame} {meth : Method} {c : Code} {Q : State → Prop}
variable {prog : Nat → Option zE} {zst : zSt} {TG TN : List Cond} {scr : List zV} {adK adV : Nat → Nat} {ext : Nat → Option Nat} {D : va_G} {ct : Nat → ClassId} {A : Nat → Prop} {E : zE} {rc rs d : Nat} {ws0 : va_W}
variable {K : zS → Bool} {cv : zV} {a b k pc nc ns : Nat} {L : zL} {st : List zV} {h : zH} {ls : Array Slot} {stc : List Value} {H : Heap} {locs : List Loc} {ws : va_W} {cc : zK}
theorem z_getf (C : zCx p R s m args meth c prog zst TG TN scr adK adV ext D ct A E rc rs d) (IH : ∀ x, K x = true → zGo p l e R s m args below meth c Q ext D ct (zEm E) rc rs A ws0 x) (hrel : zRel ext D ct (zEm E) rc rs A s.heap ws0 L st h nc ns ls stc H locs ws) {ix : Nat}
    (k1 : zdec E.2.1 pc (.getfield ix) = true) (k2 : zside prog E.1 zst (.getfield ix) cv a b k = true) (k3 : ∀ w ∈ zwords prog E.1.cls (.getfield ix) cv a b, w ∈ TG)
    (hz : zstep zNf zdfl zslen prog (zEm E) rc rs scr cc K (.getfield ix) cv a b k pc L st h nc ns = true) : W p l e R s m args below meth c H locs nc ns Q (F0 m pc ls stc) := by
  have hdg : decode E.2.1 pc = .ok (.getfield ix, 3) := of_decide_eq_true k1
  obtain ⟨hl, hL, hst, hH, hP, hD, hS, hnc, hns, hpre⟩ := hrel
  obtain ⟨hx, hb, hml, hown, hts, -, hK, -, -, -, -, -, hA, -, -, -, -, -, huw⟩ := C
  simp only [zstep] at hz
  split at hz
  · next q r =>
    obtain ⟨fs, h1, h2, hz⟩ := zrow_sp hz
    split at hz
    · next v hv =>
      obtain ⟨v0, rest, rfl, ⟨b0, hb0, rfl⟩, hrest⟩ := zL2_cons hst
      obtain ⟨a1, a2⟩ := z_and k2
      obtain ⟨a2, a3⟩ := z_and a2
      have a1 := z_blt a1
      have a3 : (zTf a b).1 = zRf a := of_decide_eq_true a3
      obtain ⟨fv, g1, g2⟩ := z_refobj hH h1 h2 (by omega) hb0
      obtain ⟨w, g3, g4⟩ := zL2_get b g2 hv
      exact va_get hx hb hts (fun w hw => huw w (z_uws a1 w hw)) hown hK hP q g1 (z_cl a1) b (z_blt a2) (ref := zRf a) (hts _ (k3 _ List.mem_cons_self)) (fun x hx => by rw [a3] at hx; exact hx) g3 hdg (IH _ hz ls _ H locs ws ⟨hl, hL, ⟨g4, hrest⟩, hH, hP, hD, hS, hnc, hns, hpre⟩)
    · cases hz
  · cases hz
theorem z_putf (C : zCx p R s m args meth c prog zst TG TN scr adK adV ext D ct A E rc rs d) (IH : ∀ x, K x = true → zGo p l e R s m args below meth c Q ext D ct (zEm E) rc rs A ws0 x) (hrel : zRel ext D ct (zEm E) rc rs A s.heap ws0 L st h nc ns ls stc H locs ws) {ix : Nat}
    (k1 : zdec E.2.1 pc (.putfield ix) = true) (k2 : zside prog E.1 zst (.putfield ix) cv a b k = true) (k3 : ∀ w ∈ zwords prog E.1.cls (.putfield ix) cv a b, w ∈ TG)
    (hz : zstep zNf zdfl zslen prog (zEm E) rc rs scr cc K (.putfield ix) cv a b k pc L st h nc ns = true) : W p l e R s m args below meth c H locs nc ns Q (F0 m pc ls stc) := by
  have hdg : decode E.2.1 pc = .ok (.putfield ix, 3) := of_decide_eq_true k1
  obtain ⟨hl, hL, hst, hH, hP, hD, hS, hnc, hns, hpre⟩ := hrel
  obtain ⟨hx, hb, hml, hown, hts, hini, hK, -, -, -, -, -, hA, -, -, -, -, -, huw⟩ := C
  simp only [zstep] at hz
  split at hz
  · next v q r =>
    obtain ⟨fs, h1, h2, hz⟩ := zrow_sp hz
    obtain ⟨h3, hz⟩ := z_and hz
    obtain ⟨h4, hz⟩ := z_and hz
    obtain ⟨w, v0, rest, rfl, hg, ⟨b0, hb0, rfl⟩, hrest⟩ := zL2_2 hst
    obtain ⟨a1, a2⟩ := z_and k2
    obtain ⟨a2, a3⟩ := z_and a2
    obtain ⟨a3, a4⟩ := z_and a3
    obtain ⟨a4, a5⟩ := z_and a4
    have a1 := z_blt a1
    have a3 : (zTf a b).1 = zRf a := of_decide_eq_true a3
    obtain ⟨fv, g1, g2⟩ := z_refobj hH h1 h2 (by omega) hb0
    obtain ⟨n1, n2⟩ := z_nf a4 h4 hg
    have hlen := zL2_len g2
    have hin : ∀ w ∈ u_ws (zRf a) (zTf a) (zNf a), w ∈ TG := fun w hw => huw w (z_uws a1 w hw)
    have fin : ∀ (H1 : Heap) (locs1 : List Loc), va_P D vwCl (ws.set q (b0, .inr (a, fv.set b w))) H1 → va_D A (ws.set q (b0, .inr (a, fv.set b w))) → va_S A s.heap H1 locs1 → W p l e R s m args below meth c H1 locs1 nc ns Q (F0 m (pc + 3) ls rest) := fun H1 locs1 hP1 hD1 hS1 => by
      have er := zrho_set (ext := ext) (e := .inr (a, fv.set b w)) g1
      refine IH _ hz ls _ H1 locs1 _ ⟨hl, by rw [er]; exact hL, by rw [er]; exact hrest, ?_, hP1, hD1, hS1, hnc, hns, zPre_tr hpre (zPre_set g1)⟩
      rw [er]
      exact zHp_set hH ⟨rfl, by show a < 10; omega, zL2_set hg b g2⟩
    by_cases hf : (zTf a b).2.2.2 = true
    · have a6 : (decide (E.1.name = "<init>") && decide (zRf a = E.1.cls)) = true := by
        rcases (Bool.or_eq_true _ _).mp a5 with q1 | q1
        · rw [hf] at q1
          cases q1
        · exact q1
      obtain ⟨a6, a7⟩ := z_and a6
      exact va_putF hx hb hts hin (zTy a) (z_ty a1) (z_nm a1) hown hK hP hD hS q g1 (z_cl a1) b (z_blt a2) (ref := zRf a) (hts _ (k3 _ List.mem_cons_self)) (fun x hx => by rw [a3] at hx; exact hx) hf (hini (of_decide_eq_true a6)) (a3.trans (of_decide_eq_true a7)) (z_ty a1 b (z_blt a2)) n1 n2 (by rw [← hlen]; exact z_blt h3) hdg fin
    · exact va_put hx hb hts hin (zTy a) (z_ty a1) (z_nm a1) hown hK hP hD hS q g1 (z_cl a1) b (z_blt a2) (ref := zRf a) (hts _ (k3 _ List.mem_cons_self)) (fun x hx => by rw [a3] at hx; exact hx) (by simpa using hf) (z_ty a1 b (z_blt a2)) n1 n2 (by rw [← hlen]; exact z_blt h3) hdg fin
  · cases hz
theorem z_new (C : zCx p R s m args meth c prog zst TG TN scr adK adV ext D ct A E rc rs d) (IH : ∀ x, K x = true → zGo p l e R s m args below meth c Q ext D ct (zEm E) rc rs A ws0 x) (hrel : zRel ext D ct (zEm E) rc rs A s.heap ws0 L st h nc ns ls stc H locs ws) {ix : Nat}
    (k1 : zdec E.2.1 pc (.new ix) = true) (k2 : zside prog E.1 zst (.new ix) cv a b k = true) (k3 : ∀ w ∈ zwords prog E.1.cls (.new ix) cv a b, w ∈ TG)
    (hz : zstep zNf zdfl zslen prog (zEm E) rc rs scr cc K (.new ix) cv a b k pc L st h nc ns = true) : W p l e R s m args below meth c H locs nc ns Q (F0 m pc ls stc) := by
  have hdg : decode E.2.1 pc = .ok (.new ix, 3) := of_decide_eq_true k1
  obtain ⟨hl, hL, hst, hH, hP, hD, hS, hnc, hns, hpre⟩ := hrel
  obtain ⟨hx, hb, hml, hown, hts, hini, hK, -, -, -, -, -, hA, -, -, hrc, hrs, -, huw⟩ := C
  simp only [zstep] at hz
  obtain ⟨h1, hz⟩ := z_and hz
  obtain ⟨h2, hz⟩ := z_and hz
  obtain ⟨h3, hz⟩ := z_and hz
  have h1 := z_ble h1
  have h2 := z_ble h2
  have h3 := z_blt h3
  have a1 : a < 6 := z_blt k2
  have hin : ∀ w ∈ u_ws (zRf a) (zTf a) (zNf a), w ∈ TG := fun w hw => huw w (z_uws a1 w hw)
  refine va_new hx hb hts hin (zTy a) (z_ty a1) hown (hts _ (k3 _ (List.mem_cons_self))) (hts _ (k3 _ (List.mem_cons_of_mem _ List.mem_cons_self))) (hts _ (k3 _ (List.mem_cons_of_mem _ (List.mem_cons_of_mem _ List.mem_cons_self)))) hK hP hD hS hA (z_cl a1) (fs := (List.range (zNf a)).map (fun k => defaultValue (zTy a k))) (fun j hj => by simp [vp_V, hj]) (by omega) (by omega) hdg (fun q H1 hP1 hD1 hS1 => ?_)
  have hm : ∀ k9 a9 : Nat, zrho ws ext k9 = some a9 → zrho (ws ++ [(q, .inr (a, (List.range (zNf a)).map (fun k => defaultValue (zTy a k))))]) ext k9 = some a9 := fun _ _ hk => zrho_app hk
  refine IH _ hz ls _ H1 locs _ ⟨hl, zLo_mono hm hL, ⟨⟨q, ?_, rfl⟩, zL2_mono hm hst⟩, zHp_app (zHp_mono hm hH) (zHp_one ⟨rfl, by show a < 10; omega, z_L2map _ (fun j hj => z_dfv _ (z_tyok a a1 j (List.mem_range.mp hj)))⟩), hP1, hD1, hS1, h1, h2, zPre_tr hpre (zPre_app _ _)⟩
  refine zrho_at h3 (e := .inr (a, (List.range (zNf a)).map (fun k => defaultValue (zTy a k)))) ?_
  rw [hH.1, List.getElem?_append_right (Nat.le_refl _), Nat.sub_self]
  rfl
end
