def va_AOA (ty : FieldType) (U : State) : Prop := (Cond.arrayOver (.array ty)).before #[] U = true
theorem z_idx_bare (vm : Vm) (comp : ClassId) : (vm.bare.classes.findIdx? fun (x : Class) => match x.kind with | .array component _ => component == comp | _ => false) = (vm.classes.findIdx? fun (x : Class) => match x.kind with | .array component _ => component == comp | _ => false) := by
  simp only [Vm.bare, Array.findIdx?_map]
  rfl
theorem va_AOA.use {ty : FieldType} {A : Array Value} {U : State} (h : va_AOA ty U) : (Cond.arrayOver (.array ty)).before A U = true := h
theorem va_AOA.spec {ty : FieldType} {s : State} (h : va_AOA ty s) : ∃ comp c k, s.vm.findClass (FieldType.array ty).toString = some comp ∧ (s.vm.classes.findIdx? fun (x : Class) => match x.kind with | .array component _ => component == comp | _ => false) = some c ∧ s.vm.classes[c]? = some k ∧ k.kind = .array comp (.array ty) ∧ s.vm.findClass ("[" ++ (FieldType.array ty).toString) = some c := by
  unfold va_AOA at h
  simp only [Cond.before, Cond.holds, Cond.value, beq_iff_eq] at h
  cases hc : s.vm.findClass (FieldType.array ty).toString with
  | none => simp [hc] at h
  | some comp =>
    simp only [hc, Option.bind_some, Option.bind_eq_some_iff, Option.map_eq_some_iff] at h
    obtain ⟨c, hi, k, hk, hb⟩ := h
    obtain ⟨hlt, hp, -⟩ := Array.findIdx?_eq_some_iff_getElem.mp hi
    have hkk : s.vm.classes[c] = k := (Array.getElem?_eq_some_iff.mp hk).2
    rw [hkk] at hp
    cases hkind : k.kind with
    | array component ty2 =>
      rw [hkind] at hb hp
      simp at hb hp
      exact ⟨comp, c, k, rfl, hi, hk, by rw [hkind, hp, hb.1], hb.2⟩
    | _ => rw [hkind] at hb; simp at hb
theorem va_AOA.moved {ty : FieldType} {u U : State} (hvm : u.vm.Alike U.vm) (h : va_AOA ty u) : va_AOA ty U := by
  obtain ⟨comp, c, k, h1, h2, h3, h4, h5⟩ := va_AOA.spec h
  obtain ⟨k', hk', he⟩ := hvm.2.2 _ _ h3
  have hi : (U.vm.classes.findIdx? fun (x : Class) => match x.kind with | .array component _ => component == comp | _ => false) = some c := by
    rw [← z_idx_bare]
    first | rw [hvm.bare_eq] | rw [← hvm.bare_eq]
    rw [z_idx_bare]
    exact h2
  have hkind : k'.kind = .array comp (.array ty) := by rw [he]; exact h4
  have f1 : U.vm.findClass (FieldType.array ty).toString = some comp := by rw [hvm.findClass]; exact h1
  have f2 : U.vm.findClass ("[" ++ (FieldType.array ty).toString) = some c := by rw [hvm.findClass]; exact h5
  unfold va_AOA Cond.before Cond.holds
  simp only [Cond.value]
  rw [f1, Option.bind_some]
  refine (congrArg (fun o : Option Nat => (o.bind (fun c => (U.vm.classes[c]?).map fun (k : Class) => match k.kind with | .array _ ty2 => decide (ty2 = FieldType.array ty) && decide (U.vm.findClass ("[" ++ (FieldType.array ty).toString) = some c) | _ => false) == some true)) hi).trans ?_
  simp [hk', hkind, f2]

/-! ===== BEGIN words of one list among another's, by their places ===== -/
theorem goodIn_r {big : List Cond} (ws : List Cond) (ps : List Nat) (hp : ws = ps.filterMap (fun i => big[i]?)) (h : ws.all goodWord = true) : GoodIn big ws := by
  intro w hw
  have h1 := List.all_eq_true.mp h w hw
  rw [hp] at hw
  obtain ⟨i, -, hi⟩ := List.mem_filterMap.mp hw
  have hm : w ∈ big := by first | exact List.mem_of_getElem? hi | exact List.getElem?_mem hi
  exact ⟨hm, good_of_word h1⟩
theorem goodIn_app {big a b : List Cond} (ha : GoodIn big a) (hb : GoodIn big b) : GoodIn big (a ++ b) := fun w h => (List.mem_append.mp h).elim (ha w) (hb w)
theorem goodIn_ca {big a b : List Cond} {c : Cond} (ha : GoodIn big (c :: a)) (hb : GoodIn big b) : GoodIn big (c :: (a ++ b)) := fun w h => (List.mem_cons.mp h).elim (fun e => ha w (List.mem_cons.mpr (Or.inl e))) (fun h => (List.mem_append.mp h).elim (fun h => ha w (List.mem_cons.mpr (Or.inr h))) (hb w))
theorem goodIn_sub {big ws : List Cond} (hm : ∀ w ∈ ws, w ∈ big) (h : ws.all goodWord = true) : GoodIn big ws := fun w hw => ⟨hm w hw, good_of_word (List.all_eq_true.mp h w hw)⟩
/-! ===== END ===== -/

/-! ===== BEGIN new T[n][m]: the outer array a place, the inner ones among the pooled ===== -/
/-- f, but v at every address of l -/
def vr_up {α : Type} (f : Nat → α) (l : List Nat) (v : α) : Nat → α := fun a => if a ∈ l then v else f a
theorem vr_up_in {α : Type} {f : Nat → α} {l : List Nat} {v : α} {a : Nat} (h : a ∈ l) : vr_up f l v a = v := if_pos h
theorem vr_up_ne {α : Type} {f : Nat → α} {l : List Nat} {v : α} {a : Nat} (h : a ∉ l) : vr_up f l v a = f a := if_neg h
theorem vr_rows {L l : List Nat} {f : Nat → va_E} {e : va_E} (h : ∀ a, a ∈ l → a ∉ L) : va_pl L f ++ l.map (fun a => (a, e)) = va_pl (L ++ l) (vr_up f l e) := by
  unfold va_pl
  rw [List.map_append]
  congr 1
  · apply List.map_congr_left
    intro a ha
    rw [vr_up_ne (fun q => h a q ha)]
  · apply List.map_congr_left
    intro a ha
    rw [vr_up_in ha]
theorem vr_lay {X rows : va_W} {x : Nat × va_E} {pl : va_W} {D : va_G} {cl : List vw_C} {H : Heap} (hP : va_P D cl (((X ++ pl) ++ [x]) ++ rows) H) : va_P D cl ((X ++ [x]) ++ (pl ++ rows)) H := by
  rw [List.append_assoc (X ++ pl)] at hP
  have h := va_P.swap hP
  rw [← List.append_assoc X] at h
  have h2 := va_P.swap h
  rw [List.append_assoc (X ++ [x])] at h2
  exact h2
theorem vr_layD {X rows : va_W} {x : Nat × va_E} {pl : va_W} {A : Nat → Prop} (hD : va_D A (((X ++ pl) ++ [x]) ++ rows)) : va_D A ((X ++ [x]) ++ (pl ++ rows)) := by
  rw [List.append_assoc (X ++ pl)] at hD
  have h := va_D.swap hD
  rw [← List.append_assoc X] at h
  have h2 := va_D.swap h
  rw [List.append_assoc (X ++ [x])] at h2
  exact h2
theorem vr_outer (c : ClassId) (N h0 : Nat) : ∀ i : Nat, Jvm.Free.Multi.outerC c N h0 i = arrV c N (fun j => va_rf (if j < i then some (h0 + 1 + j) else none))
  | 0 => by
    show ({ cls := c, slots := Array.replicate N .null, vm := .none } : Cell) = _
    rw [arrV_new]
    refine congrArg (arrV c N) (funext fun j => ?_)
    simp [va_rf]
  | i + 1 => by
    show (Jvm.Free.Multi.outerC c N h0 i).setSlot i (.ref (h0 + 1 + i)) = _
    rw [vr_outer c N h0 i, arrV_store]
    refine congrArg (arrV c N) (funext fun j => ?_)
    by_cases e : j = i
    · subst e
      simp [updV, va_rf]
    · by_cases h : j < i
      · simp [updV, e, h, Nat.lt_succ_of_lt h]
      · simp [updV, e, h, show ¬ j < i + 1 by omega]
section VGM
variable {p : Program} {l : Launch} {e : Env} {R : Room} {s : State} {m : MethodId} {args : Array Value} {below : List Frame} {meth : Method} {c : Code} {H : Heap} {locs : List Loc} {cells slots : Nat} {Q : State → Prop}
variable {cc : ByteArray} {pc : Nat} {ls : Array Slot} {rest : List Value} {D : va_G} {cl : List vw_C} {A : Nat → Prop} {a : Nat} {tys : List (ClassId × FieldType)} {ws : va_W} {H0 : Heap}
theorem va_mna {X : va_W} {L : List Nat} {f : Nat → va_E} {cc : ByteArray} (hexec : p.tables.exec = Jvm.exec) (hb : c.code = cc) {own : String} {index : Nat} {ty : FieldType} {cy : ClassId} (hown : s.vm.findClass own = some m.cls) (hclink : (Cond.classLink own index ("[" ++ (FieldType.array ty).toString)).before args s = true) (hover : va_AOA ty s) (harr : (Cond.arrayClass ty).before args s = true) (hcy : s.vm.findClass (FieldType.array ty).toString = some cy)
    (hK : va_K D cl tys s) (hP : va_P D cl (X ++ va_pl L f) H) (hD : va_D A (X ++ va_pl L f)) (hS : va_S A H0 H locs) (hA : ∀ q, H0.size ≤ q → A q) {n k : Int32} {N' K' : Nat} {z : vp_A} (hn : ¬ n < 0) (hk : ¬ k < 0) (hN : n.toNatClampNeg = N') (hM : k.toNatClampNeg = K')
    (hb1 : N' * 4 ≤ 536870912) (hb2 : K' * componentBytes ty ≤ 536870912) (hb3 : K' ≤ 536870912) (hdf : fits ty (defaultValue ty) = true) (hdd : (defaultValue ty).isDefault = true) (hcells : cells + (1 + N') ≤ R.cells) (hslots : slots + (N' + N' * K') ≤ R.slots) (hz : ∀ c : ClassId, Jvm.Free.Multi.innerC c K' (defaultValue ty) = vp_cell c z) (hdg : decode cc pc = .ok (.multianewarray index 2, 4))
    (kk : ∀ (q : Nat) (r : Nat → Nat) (cA : ClassId) (H1 : Heap), (∀ i j : Nat, i < N' → j < N' → r i = r j → i = j) → (∀ i : Nat, i < N' → r i ∉ L) → va_K D cl (tys ++ [(cA, .array ty)]) s →
      va_P D cl ((X ++ [(q, .inl (cA, N', .inr (.inr (.inr (.inr (fun i => if i < N' then some (r i) else none))))))]) ++ va_pl (L ++ (List.range N').map r) (vr_up f ((List.range N').map r) (.inl (cy, z)))) H1 → va_D A ((X ++ [(q, .inl (cA, N', .inr (.inr (.inr (.inr (fun i => if i < N' then some (r i) else none))))))]) ++ va_pl (L ++ (List.range N').map r) (vr_up f ((List.range N').map r) (.inl (cy, z)))) → va_S A H0 H1 locs →
      W p l e R s m args below meth c H1 locs (cells + 1 + N') (slots + N' + N' * K') Q (F0 m (pc + 4) ls (.ref q :: rest))) : W p l e R s m args below meth c H locs cells slots Q (F0 m pc ls (.int k :: .int n :: rest)) := by
  subst hN
  subst hM
  intro T hT Xs
  obtain ⟨vm₁, cA, comp, -, fA, fC, hO, -, X', step⟩ := Xs.multianewarray2F hexec hown hclink (va_AOA.use hover) harr (g := F0 m pc ls (.int k :: .int n :: rest)) rfl (by rw [hb]; exact hdg) rfl hn hk hb1 hb2 hb3 hdf hdd hcells hslots
  have ec : some cy = some comp := hcy.symm.trans fC
  cases ec
  generalize hF : Jvm.Free.Multi.fill (T.setVm vm₁) cA cy n.toNatClampNeg k.toNatClampNeg (defaultValue ty) n.toNatClampNeg = F at X' step
  have hTh : (T.setVm vm₁).heap = H := hT
  obtain ⟨f1, f2, -, -⟩ := Jvm.Free.Multi.fill_facts (T.setVm vm₁) cA cy n.toNatClampNeg k.toNatClampNeg (defaultValue ty) n.toNatClampNeg
  rw [hF, hTh] at f1 f2
  have hold : ∀ x : Nat, x < H.size → F.heap[x]? = H[x]? := fun x hx => by
    have := Jvm.Free.Multi.fill_old (T.setVm vm₁) cA cy n.toNatClampNeg k.toNatClampNeg (defaultValue ty) (a := x) (by rw [hTh]; exact hx) n.toNatClampNeg
    rw [hF, hTh] at this
    exact this
  have hrow : ∀ j : Nat, j < n.toNatClampNeg → F.heap[H.size + 1 + j]? = some (vp_cell cy z) := fun j hj => by
    have := Jvm.Free.Multi.fill_inner (T.setVm vm₁) cA cy n.toNatClampNeg k.toNatClampNeg (defaultValue ty) n.toNatClampNeg j hj
    rw [hF, hTh, hz] at this
    exact this
  have hout : Jvm.Free.Multi.outerC cA n.toNatClampNeg H.size n.toNatClampNeg = vp_cell cA (n.toNatClampNeg, .inr (.inr (.inr (.inr (fun i => if i < n.toNatClampNeg then some (H.size + 1 + i) else none))))) := by
    rw [vp_cell_q]
    exact vr_outer cA n.toNatClampNeg H.size n.toNatClampNeg
  rw [hout] at f2
  have hlt : ∀ a, a ∈ L → a < H.size := fun a ha => by
    obtain ⟨k9, hk9⟩ := va_pl_get (X := X) (f := f) ha
    exact (hP k9 _ hk9).lt
  have hnl : ∀ i : Nat, i < n.toNatClampNeg → H.size + 1 + i ∉ L := fun i _ h => by
    have := hlt _ h
    omega
  have hnm : ∀ a, a ∈ (List.range n.toNatClampNeg).map (fun i => H.size + 1 + i) → a ∉ L := fun a ha h => by
    obtain ⟨i, -, rfl⟩ := List.mem_map.mp ha
    have := hlt _ h
    omega
  have hP0 : va_P D cl (X ++ va_pl L f) F.heap := hP.kept (fun k9 x hx => hold x.1 ((hP k9 x hx).lt))
  have hP1 : va_P D cl ((X ++ va_pl L f) ++ [(H.size, .inl (cA, n.toNatClampNeg, .inr (.inr (.inr (.inr (fun i => if i < n.toNatClampNeg then some (H.size + 1 + i) else none))))))]) F.heap := hP0.app (fun k9 x hx => by
    have h0 : k9 < 1 := (List.getElem?_eq_some_iff.mp hx).1
    rw [show k9 = 0 by omega] at hx
    cases hx
    exact f2)
  have hP2 : va_P D cl (((X ++ va_pl L f) ++ [(H.size, .inl (cA, n.toNatClampNeg, .inr (.inr (.inr (.inr (fun i => if i < n.toNatClampNeg then some (H.size + 1 + i) else none))))))]) ++ ((List.range n.toNatClampNeg).map (fun i => H.size + 1 + i)).map (fun a => (a, .inl (cy, z)))) F.heap := hP1.app (fun k9 x hx => by
    obtain ⟨a, ha, rfl⟩ := List.mem_map.mp (List.mem_of_getElem? hx)
    obtain ⟨i, hi, rfl⟩ := List.mem_map.mp ha
    exact hrow i (List.mem_range.mp hi))
  have hD2 : va_D A (((X ++ va_pl L f) ++ [(H.size, .inl (cA, n.toNatClampNeg, .inr (.inr (.inr (.inr (fun i => if i < n.toNatClampNeg then some (H.size + 1 + i) else none))))))]) ++ ((List.range n.toNatClampNeg).map (fun i => H.size + 1 + i)).map (fun a => (a, .inl (cy, z)))) := by
    have hD1 := hD.push (e := .inl (cA, n.toNatClampNeg, .inr (.inr (.inr (.inr (fun i => if i < n.toNatClampNeg then some (H.size + 1 + i) else none)))))) hP rfl (hA _ hS.1)
    generalize hW1 : (X ++ va_pl L f) ++ [(H.size, .inl (cA, n.toNatClampNeg, .inr (.inr (.inr (.inr (fun i => if i < n.toNatClampNeg then some (H.size + 1 + i) else none))))))] = W1 at hD1 hP1 ⊢
    have hle : ∀ (k9 : Nat) (x : Nat × va_E), W1[k9]? = some x → x.1 ≤ H.size := fun k9 x hx => by
      rw [← hW1] at hx
      by_cases hl : k9 < (X ++ va_pl L f).length
      · rw [List.getElem?_append_left hl] at hx
        exact Nat.le_of_lt ((hP k9 x hx).lt)
      · rw [List.getElem?_append_right (by omega)] at hx
        have h0 : k9 - (X ++ va_pl L f).length < 1 := (List.getElem?_eq_some_iff.mp hx).1
        rw [show k9 - (X ++ va_pl L f).length = 0 by omega] at hx
        cases hx
        exact Nat.le_refl _
    have hr : ∀ (k9 : Nat) (x : Nat × va_E), (((List.range n.toNatClampNeg).map (fun i => H.size + 1 + i)).map (fun a => ((a, .inl (cy, z)) : Nat × va_E)))[k9]? = some x → x.1 = H.size + 1 + k9 := fun k9 x hx => by
      rw [List.getElem?_map, List.getElem?_map] at hx
      by_cases h9 : k9 < n.toNatClampNeg
      · rw [List.getElem?_range h9] at hx
        cases hx
        rfl
      · have hn0 : (List.range n.toNatClampNeg)[k9]? = none := List.getElem?_eq_none (by rw [List.length_range]; omega)
        rw [hn0] at hx
        cases hx
    refine ⟨fun i j x y hi hj hxy => ?_, fun k9 x hx => ?_⟩
    · by_cases h1 : i < W1.length <;> by_cases h2 : j < W1.length
      · rw [List.getElem?_append_left h1] at hi
        rw [List.getElem?_append_left h2] at hj
        exact hD1.1 i j x y hi hj hxy
      · rw [List.getElem?_append_left h1] at hi
        rw [List.getElem?_append_right (by omega)] at hj
        have := hle _ _ hi
        have := hr _ _ hj
        omega
      · rw [List.getElem?_append_right (by omega)] at hi
        rw [List.getElem?_append_left h2] at hj
        have := hle _ _ hj
        have := hr _ _ hi
        omega
      · rw [List.getElem?_append_right (by omega)] at hi hj
        have := hr _ _ hi
        have := hr _ _ hj
        omega
    · by_cases h1 : k9 < W1.length
      · rw [List.getElem?_append_left h1] at hx
        exact hD1.2 k9 x hx
      · rw [List.getElem?_append_right (by omega)] at hx
        have := hr _ _ hx
        exact hA _ (by have := hS.1; omega)
  have hAr : ArrOfT s cA (.array ty) := fun N9 z9 => by
    obtain ⟨-, k9, hk9, cm9, hkk9⟩ := (hO 0 0 0).1
    exact ⟨(fun q hq => by cases hq), k9, hk9, cm9, hkk9⟩
  have hK2 : va_K D cl (tys ++ [(cA, .array ty)]) s := ⟨hK.1, fun k9 x hx => by
    by_cases hl : k9 < tys.length
    · rw [List.getElem?_append_left hl] at hx
      exact hK.2 k9 x hx
    · rw [List.getElem?_append_right (by omega)] at hx
      have h0 : k9 - tys.length < 1 := (List.getElem?_eq_some_iff.mp hx).1
      rw [show k9 - tys.length = 0 by omega] at hx
      cases hx
      exact ⟨hAr, fA⟩⟩
  obtain ⟨t, a1, b1⟩ := kk H.size (fun i => H.size + 1 + i) cA F.heap (fun i j _ _ h => by have h9 : H.size + 1 + i = H.size + 1 + j := h; omega) hnl hK2 (by rw [← vr_rows hnm]; exact vr_lay hP2) (by rw [← vr_rows hnm]; exact vr_layD hD2) ⟨by rw [f1]; have := hS.1; omega, fun x h1 h2 => (hold x (Nat.lt_of_lt_of_le h1 hS.1)).trans (hS.2.1 x h1 h2), hS.2.2⟩ F rfl X'
  refine ⟨t, step t ?_, b1⟩
  have e : T.heap.size = H.size := by rw [hT]
  rw [e]
  exact a1
end VGM
/-! ===== END ===== -/

def RX0 : String := "EndsInFive$Shelf"
def TX0 : u_T := fun k => match k with
  | 0 => ("EndsInFive$Shelf", "content", "I", false)
  | 1 => ("EndsInFive$Shelf", "size", "I", false)
  | _ => ("EndsInFive$Shelf", "elements", "[J", true)
def tyX0 : Nat → FieldType := fun k => match k with
  | 0 => .int
  | 1 => .int
  | _ => .array .long
abbrev wsX00 : List Cond := u_ws RX0 TX0 3
theorem nmX0 : ∀ a, a < 3 → ∀ b, b < 3 → a ≠ b → (TX0 a).2.1 ≠ (TX0 b).2.1 := by decide +kernel
theorem tyX0_ok : ∀ k, k < 3 → parseFieldDescriptor (TX0 k).2.2.1 = some (tyX0 k) := by decide +kernel
abbrev cX0_init : ByteArray := prog_2_method_1_code
def yX0_init : MethodName := ⟨RX0, "<init>", "()V"⟩
abbrev cX0_putRow : ByteArray := prog_2_method_2_code
def yX0_putRow : MethodName := ⟨RX0, "putRow", "(II)V"⟩
abbrev cX0_holdsRow : ByteArray := prog_2_method_3_code
def yX0_holdsRow : MethodName := ⟨RX0, "holdsRow", "()Z"⟩
abbrev cX0_lackOfRow : ByteArray := prog_2_method_4_code
def yX0_lackOfRow : MethodName := ⟨RX0, "lackOfRow", "()I"⟩
abbrev cX0_hasElement : ByteArray := prog_2_method_5_code
def yX0_hasElement : MethodName := ⟨RX0, "hasElement", "(I)Z"⟩
abbrev cX0_hasElements : ByteArray := prog_2_method_6_code
def yX0_hasElements : MethodName := ⟨RX0, "hasElements", "(II)Z"⟩
abbrev cX0_lowestBits : ByteArray := prog_2_method_7_code
def yX0_lowestBits : MethodName := ⟨RX0, "lowestBits", "(J)J"⟩
abbrev cX0_slipAt : ByteArray := prog_2_method_8_code
def yX0_slipAt : MethodName := ⟨RX0, "slipAt", "(I)I"⟩
def RX1 : String := "EndsInFive$Stall"
def TX1 : u_T := fun k => match k with
  | 0 => ("EndsInFive$Stall", "slips", "I", false)
  | 1 => ("EndsInFive$Stall", "rule", "I", false)
  | 2 => ("EndsInFive$Stall", "price", "I", false)
  | 3 => ("EndsInFive$Stall", "five", "I", false)
  | 4 => ("EndsInFive$Stall", "goes", "I", false)
  | 5 => ("EndsInFive$Stall", "taken", "I", false)
  | 6 => ("EndsInFive$Stall", "seed", "I", false)
  | 7 => ("EndsInFive$Stall", "in", "J", false)
  | 8 => ("EndsInFive$Stall", "things", "I", false)
  | 9 => ("EndsInFive$Stall", "kinds", "[I", true)
  | 10 => ("EndsInFive$Stall", "places", "[I", true)
  | 11 => ("EndsInFive$Stall", "waits", "[I", true)
  | 12 => ("EndsInFive$Stall", "ages", "[I", true)
  | 13 => ("EndsInFive$Stall", "owners", "[I", true)
  | 14 => ("EndsInFive$Stall", "buyers", "I", false)
  | 15 => ("EndsInFive$Stall", "purses", "[I", true)
  | _ => ("EndsInFive$Stall", "likings", "[I", true)
def tyX1 : Nat → FieldType := fun k => match k with
  | 0 => .int
  | 1 => .int
  | 2 => .int
  | 3 => .int
  | 4 => .int
  | 5 => .int
  | 6 => .int
  | 7 => .long
  | 8 => .int
  | 9 => .array .int
  | 10 => .array .int
  | 11 => .array .int
  | 12 => .array .int
  | 13 => .array .int
  | 14 => .int
  | 15 => .array .int
  | _ => .array .int
abbrev wsX10 : List Cond := u_ws RX1 TX1 17
theorem nmX1 : ∀ a, a < 17 → ∀ b, b < 17 → a ≠ b → (TX1 a).2.1 ≠ (TX1 b).2.1 := by decide +kernel
theorem tyX1_ok : ∀ k, k < 17 → parseFieldDescriptor (TX1 k).2.2.1 = some (tyX1 k) := by decide +kernel
abbrev cX1_init : ByteArray := prog_3_method_1_code
def yX1_init : MethodName := ⟨RX1, "<init>", "()V"⟩
abbrev cX1_become : ByteArray := prog_3_method_2_code
def yX1_become : MethodName := ⟨RX1, "become", "(LEndsInFive$Stall;)V"⟩
abbrev cX1_isSlip : ByteArray := prog_3_method_3_code
def yX1_isSlip : MethodName := ⟨RX1, "isSlip", "(I)Z"⟩
abbrev cX1_isThing : ByteArray := prog_3_method_4_code
def yX1_isThing : MethodName := ⟨RX1, "isThing", "(I)Z"⟩
abbrev cX1_isBuyer : ByteArray := prog_3_method_5_code
def yX1_isBuyer : MethodName := ⟨RX1, "isBuyer", "(I)Z"⟩
abbrev cX1_putSlips : ByteArray := prog_3_method_6_code
def yX1_putSlips : MethodName := ⟨RX1, "putSlips", "(I)V"⟩
abbrev cX1_putAllIn : ByteArray := prog_3_method_7_code
def yX1_putAllIn : MethodName := ⟨RX1, "putAllIn", "()V"⟩
abbrev cX1_takeOut : ByteArray := prog_3_method_8_code
def yX1_takeOut : MethodName := ⟨RX1, "takeOut", "(I)V"⟩
abbrev cX1_isIn : ByteArray := prog_3_method_9_code
def yX1_isIn : MethodName := ⟨RX1, "isIn", "(I)Z"⟩
abbrev cX1_isWinner : ByteArray := prog_3_method_10_code
def yX1_isWinner : MethodName := ⟨RX1, "isWinner", "(I)Z"⟩
abbrev cX1_countIn : ByteArray := prog_3_method_11_code
def yX1_countIn : MethodName := ⟨RX1, "countIn", "()I"⟩
abbrev cX1_thingOn : ByteArray := prog_3_method_12_code
def yX1_thingOn : MethodName := ⟨RX1, "thingOn", "(I)I"⟩
abbrev cX1_isFreeForThing : ByteArray := prog_3_method_13_code
def yX1_isFreeForThing : MethodName := ⟨RX1, "isFreeForThing", "(I)Z"⟩
abbrev cX1_quartersOf : ByteArray := prog_3_method_14_code
def yX1_quartersOf : MethodName := ⟨RX1, "quartersOf", "(I)I"⟩
abbrev cX1_addThing : ByteArray := prog_3_method_15_code
def yX1_addThing : MethodName := ⟨RX1, "addThing", "(III)I"⟩
abbrev cX1_stands : ByteArray := prog_3_method_16_code
def yX1_stands : MethodName := ⟨RX1, "stands", "(I)Z"⟩
abbrev cX1_thingsOwnedBy : ByteArray := prog_3_method_17_code
def yX1_thingsOwnedBy : MethodName := ⟨RX1, "thingsOwnedBy", "(I)I"⟩
abbrev cX1_standing : ByteArray := prog_3_method_18_code
def yX1_standing : MethodName := ⟨RX1, "standing", "()I"⟩
abbrev cX1_thingsUnder : ByteArray := prog_3_method_19_code
def yX1_thingsUnder : MethodName := ⟨RX1, "thingsUnder", "(I)I"⟩
abbrev cX1_firstBrought : ByteArray := prog_3_method_20_code
def yX1_firstBrought : MethodName := ⟨RX1, "firstBrought", "()I"⟩
abbrev cX1_goesToWait : ByteArray := prog_3_method_21_code
def yX1_goesToWait : MethodName := ⟨RX1, "goesToWait", "(I)I"⟩
abbrev cX1_slipsToSink : ByteArray := prog_3_method_22_code
def yX1_slipsToSink : MethodName := ⟨RX1, "slipsToSink", "()I"⟩
abbrev cX1_thingsReady : ByteArray := prog_3_method_23_code
def yX1_thingsReady : MethodName := ⟨RX1, "thingsReady", "(II)I"⟩
abbrev cX1_canBeDrawn : ByteArray := prog_3_method_24_code
def yX1_canBeDrawn : MethodName := ⟨RX1, "canBeDrawn", "(I)Z"⟩
abbrev cX1_countDrawable : ByteArray := prog_3_method_25_code
def yX1_countDrawable : MethodName := ⟨RX1, "countDrawable", "()I"⟩
abbrev cX1_wonBySlip : ByteArray := prog_3_method_26_code
def yX1_wonBySlip : MethodName := ⟨RX1, "wonBySlip", "(I)I"⟩
abbrev cX1_draw : ByteArray := prog_3_method_27_code
def yX1_draw : MethodName := ⟨RX1, "draw", "(II)V"⟩
abbrev cX1_drawBelow : ByteArray := prog_3_method_28_code
def yX1_drawBelow : MethodName := ⟨RX1, "drawBelow", "(I)I"⟩
abbrev cX1_slipByDraw : ByteArray := prog_3_method_29_code
def yX1_slipByDraw : MethodName := ⟨RX1, "slipByDraw", "()I"⟩
abbrev cX1_beginFete : ByteArray := prog_3_method_30_code
def yX1_beginFete : MethodName := ⟨RX1, "beginFete", "(I)I"⟩
abbrev cX1_addBuyer : ByteArray := prog_3_method_31_code
def yX1_addBuyer : MethodName := ⟨RX1, "addBuyer", "(I)I"⟩
abbrev cX1_pay : ByteArray := prog_3_method_32_code
def yX1_pay : MethodName := ⟨RX1, "pay", "(II)V"⟩
abbrev cX1_liking : ByteArray := prog_3_method_33_code
def yX1_liking : MethodName := ⟨RX1, "liking", "(II)I"⟩
abbrev cX1_putLiking : ByteArray := prog_3_method_34_code
def yX1_putLiking : MethodName := ⟨RX1, "putLiking", "(III)V"⟩
abbrev cX1_likingOfAll : ByteArray := prog_3_method_35_code
def yX1_likingOfAll : MethodName := ⟨RX1, "likingOfAll", "(II)I"⟩
abbrev cX1_likingByAll : ByteArray := prog_3_method_36_code
def yX1_likingByAll : MethodName := ⟨RX1, "likingByAll", "(I)I"⟩
abbrev cX1_worthOfGo : ByteArray := prog_3_method_37_code
def yX1_worthOfGo : MethodName := ⟨RX1, "worthOfGo", "(I)I"⟩
abbrev cX1_takingsAt : ByteArray := prog_3_method_38_code
def yX1_takingsAt : MethodName := ⟨RX1, "takingsAt", "(I)I"⟩
def RX2 : String := "EndsInFive$Tape"
def TX2 : u_T := fun k => match k with
  | 0 => ("EndsInFive$Tape", "bytes", "[I", true)
  | 1 => ("EndsInFive$Tape", "size", "I", false)
  | 2 => ("EndsInFive$Tape", "token", "I", false)
  | 3 => ("EndsInFive$Tape", "start", "I", false)
  | 4 => ("EndsInFive$Tape", "end", "I", false)
  | _ => ("EndsInFive$Tape", "value", "I", false)
def tyX2 : Nat → FieldType := fun k => match k with
  | 0 => .array .int
  | 1 => .int
  | 2 => .int
  | 3 => .int
  | 4 => .int
  | _ => .int
abbrev wsX20 : List Cond := u_ws RX2 TX2 6
theorem nmX2 : ∀ a, a < 6 → ∀ b, b < 6 → a ≠ b → (TX2 a).2.1 ≠ (TX2 b).2.1 := by decide +kernel
theorem tyX2_ok : ∀ k, k < 6 → parseFieldDescriptor (TX2 k).2.2.1 = some (tyX2 k) := by decide +kernel
abbrev cX2_init : ByteArray := prog_4_method_1_code
def yX2_init : MethodName := ⟨RX2, "<init>", "()V"⟩
abbrev cX2_readInto : ByteArray := prog_4_method_2_code
def yX2_readInto : MethodName := ⟨RX2, "readInto", "(LEndsInFive$Stall;)I"⟩
abbrev cX2_readStatement : ByteArray := prog_4_method_3_code
def yX2_readStatement : MethodName := ⟨RX2, "readStatement", "(LEndsInFive$Stall;)Z"⟩
abbrev cX2_readSlips : ByteArray := prog_4_method_4_code
def yX2_readSlips : MethodName := ⟨RX2, "readSlips", "(LEndsInFive$Stall;)Z"⟩
abbrev cX2_readRule : ByteArray := prog_4_method_5_code
def yX2_readRule : MethodName := ⟨RX2, "readRule", "(LEndsInFive$Stall;)Z"⟩
abbrev cX2_readPrices : ByteArray := prog_4_method_6_code
def yX2_readPrices : MethodName := ⟨RX2, "readPrices", "(LEndsInFive$Stall;)Z"⟩
abbrev cX2_readThing : ByteArray := prog_4_method_7_code
def yX2_readThing : MethodName := ⟨RX2, "readThing", "(LEndsInFive$Stall;)Z"⟩
abbrev cX2_readBuyer : ByteArray := prog_4_method_8_code
def yX2_readBuyer : MethodName := ⟨RX2, "readBuyer", "(LEndsInFive$Stall;)Z"⟩
abbrev cX2_readLiking : ByteArray := prog_4_method_9_code
def yX2_readLiking : MethodName := ⟨RX2, "readLiking", "(LEndsInFive$Stall;)Z"⟩
abbrev cX2_readOut : ByteArray := prog_4_method_10_code
def yX2_readOut : MethodName := ⟨RX2, "readOut", "(LEndsInFive$Stall;)Z"⟩
abbrev cX2_readNumber : ByteArray := prog_4_method_11_code
def yX2_readNumber : MethodName := ⟨RX2, "readNumber", "(II)Z"⟩
abbrev cX2_isWord : ByteArray := prog_4_method_12_code
def yX2_isWord : MethodName := ⟨RX2, "isWord", "(Ljava/lang/String;)Z"⟩
abbrev cX2_step : ByteArray := prog_4_method_13_code
def yX2_step : MethodName := ⟨RX2, "step", "()V"⟩
abbrev cX2_numberOf : ByteArray := prog_4_method_14_code
def yX2_numberOf : MethodName := ⟨RX2, "numberOf", "()I"⟩
abbrev cX2_sortOf : ByteArray := prog_4_method_15_code
def yX2_sortOf : MethodName := ⟨RX2, "sortOf", "(I)I"⟩
def RX3 : String := "EndsInFive$Thought"
def TX3 : u_T := fun k => match k with
  | 0 => ("EndsInFive$Thought", "values", "[I", true)
  | 1 => ("EndsInFive$Thought", "marks", "[I", true)
  | 2 => ("EndsInFive$Thought", "joys", "[I", true)
  | 3 => ("EndsInFive$Thought", "things", "I", false)
  | 4 => ("EndsInFive$Thought", "standing", "I", false)
  | 5 => ("EndsInFive$Thought", "whiskies", "I", false)
  | _ => ("EndsInFive$Thought", "bottles", "I", false)
def tyX3 : Nat → FieldType := fun k => match k with
  | 0 => .array .int
  | 1 => .array .int
  | 2 => .array .int
  | 3 => .int
  | 4 => .int
  | 5 => .int
  | _ => .int
abbrev wsX30 : List Cond := u_ws RX3 TX3 7
theorem nmX3 : ∀ a, a < 7 → ∀ b, b < 7 → a ≠ b → (TX3 a).2.1 ≠ (TX3 b).2.1 := by decide +kernel
theorem tyX3_ok : ∀ k, k < 7 → parseFieldDescriptor (TX3 k).2.2.1 = some (tyX3 k) := by decide +kernel
abbrev cX3_init : ByteArray := prog_5_method_1_code
def yX3_init : MethodName := ⟨RX3, "<init>", "()V"⟩
abbrev cX3_thinkOfAll : ByteArray := prog_5_method_2_code
def yX3_thinkOfAll : MethodName := ⟨RX3, "thinkOfAll", "(LEndsInFive$Stall;I)V"⟩
abbrev cX3_thinkOfGoes : ByteArray := prog_5_method_3_code
def yX3_thinkOfGoes : MethodName := ⟨RX3, "thinkOfGoes", "(LEndsInFive$Stall;II)V"⟩
abbrev cX3_valueNow : ByteArray := prog_5_method_4_code
def yX3_valueNow : MethodName := ⟨RX3, "valueNow", "()I"⟩
abbrev cX3_isMarked : ByteArray := prog_5_method_5_code
def yX3_isMarked : MethodName := ⟨RX3, "isMarked", "(II)Z"⟩
abbrev cX3_mark : ByteArray := prog_5_method_6_code
def yX3_mark : MethodName := ⟨RX3, "mark", "(II)V"⟩
abbrev cX3_hasState : ByteArray := prog_5_method_7_code
def yX3_hasState : MethodName := ⟨RX3, "hasState", "(II)Z"⟩
abbrev cX3_isSet : ByteArray := prog_5_method_8_code
def yX3_isSet : MethodName := ⟨RX3, "isSet", "(I)Z"⟩
abbrev cX3_lookAt : ByteArray := prog_5_method_9_code
def yX3_lookAt : MethodName := ⟨RX3, "lookAt", "(LEndsInFive$Stall;)V"⟩
abbrev cX3_fill : ByteArray := prog_5_method_10_code
def yX3_fill : MethodName := ⟨RX3, "fill", "(LEndsInFive$Stall;III)V"⟩
abbrev cX3_weigh : ByteArray := prog_5_method_11_code
def yX3_weigh : MethodName := ⟨RX3, "weigh", "(LEndsInFive$Stall;I)V"⟩
abbrev cX3_fillLayer : ByteArray := prog_5_method_12_code
def yX3_fillLayer : MethodName := ⟨RX3, "fillLayer", "(IIII)V"⟩
abbrev cX3_valueOf : ByteArray := prog_5_method_13_code
def yX3_valueOf : MethodName := ⟨RX3, "valueOf", "(IIII)I"⟩
abbrev cX3_wonWith : ByteArray := prog_5_method_14_code
def yX3_wonWith : MethodName := ⟨RX3, "wonWith", "(II)I"⟩
abbrev cX3_fewestGoes : ByteArray := prog_5_method_15_code
def yX3_fewestGoes : MethodName := ⟨RX3, "fewestGoes", "(LEndsInFive$Stall;I)I"⟩
abbrev cX3_markNext : ByteArray := prog_5_method_16_code
def yX3_markNext : MethodName := ⟨RX3, "markNext", "(IIII)Z"⟩
def RX4 : String := "EndsInFive"
def TX4 : u_T := fun k => match k with
  | 0 => ("EndsInFive", "now", "LEndsInFive$Stall;", true)
  | 1 => ("EndsInFive", "kept", "LEndsInFive$Stall;", true)
  | 2 => ("EndsInFive", "trial", "LEndsInFive$Stall;", true)
  | 3 => ("EndsInFive", "thought", "LEndsInFive$Thought;", true)
  | 4 => ("EndsInFive", "tape", "LEndsInFive$Tape;", true)
  | 5 => ("EndsInFive", "shelves", "[LEndsInFive$Shelf;", true)
  | 6 => ("EndsInFive", "refusals", "[I", true)
  | _ => ("EndsInFive", "isKept", "Z", false)
def tyX4 : Nat → FieldType := fun k => match k with
  | 0 => .object "EndsInFive$Stall"
  | 1 => .object "EndsInFive$Stall"
  | 2 => .object "EndsInFive$Stall"
  | 3 => .object "EndsInFive$Thought"
  | 4 => .object "EndsInFive$Tape"
  | 5 => .array (.object "EndsInFive$Shelf")
  | 6 => .array .int
  | _ => .boolean
abbrev wsX40 : List Cond := u_ws RX4 TX4 8
theorem nmX4 : ∀ a, a < 8 → ∀ b, b < 8 → a ≠ b → (TX4 a).2.1 ≠ (TX4 b).2.1 := by decide +kernel
theorem tyX4_ok : ∀ k, k < 8 → parseFieldDescriptor (TX4 k).2.2.1 = some (tyX4 k) := by decide +kernel
abbrev cX4_init : ByteArray := prog_1_method_1_code
def yX4_init : MethodName := ⟨RX4, "<init>", "()V"⟩
abbrev cX4_row : ByteArray := prog_1_method_2_code
def yX4_row : MethodName := ⟨RX4, "row", "(III)I"⟩
abbrev cX4_set : ByteArray := prog_1_method_3_code
def yX4_set : MethodName := ⟨RX4, "set", "(IIJ)I"⟩
abbrev cX4_copy : ByteArray := prog_1_method_4_code
def yX4_copy : MethodName := ⟨RX4, "copy", "(IIIII)I"⟩
abbrev cX4_element : ByteArray := prog_1_method_5_code
def yX4_element : MethodName := ⟨RX4, "element", "(II)J"⟩
abbrev cX4_holds : ByteArray := prog_1_method_6_code
def yX4_holds : MethodName := ⟨RX4, "holds", "(I)I"⟩
abbrev cX4_show : ByteArray := prog_1_method_7_code
def yX4_show : MethodName := ⟨RX4, "show", "(II)I"⟩
abbrev cX4_says : ByteArray := prog_1_method_8_code
def yX4_says : MethodName := ⟨RX4, "says", "(II)I"⟩
abbrev cX4_slips : ByteArray := prog_1_method_9_code
def yX4_slips : MethodName := ⟨RX4, "slips", "(I)I"⟩
abbrev cX4_rule : ByteArray := prog_1_method_10_code
def yX4_rule : MethodName := ⟨RX4, "rule", "(I)I"⟩
abbrev cX4_price : ByteArray := prog_1_method_11_code
def yX4_price : MethodName := ⟨RX4, "price", "(II)I"⟩
abbrev cX4_thing : ByteArray := prog_1_method_12_code
def yX4_thing : MethodName := ⟨RX4, "thing", "(III)I"⟩
abbrev cX4_buyer : ByteArray := prog_1_method_13_code
def yX4_buyer : MethodName := ⟨RX4, "buyer", "(I)I"⟩
abbrev cX4_likes : ByteArray := prog_1_method_14_code
def yX4_likes : MethodName := ⟨RX4, "likes", "(III)I"⟩
abbrev cX4_purse : ByteArray := prog_1_method_15_code
def yX4_purse : MethodName := ⟨RX4, "purse", "(II)I"⟩
abbrev cX4_feed : ByteArray := prog_1_method_16_code
def yX4_feed : MethodName := ⟨RX4, "feed", "(I)I"⟩
abbrev cX4_wipe : ByteArray := prog_1_method_17_code
def yX4_wipe : MethodName := ⟨RX4, "wipe", "()I"⟩
abbrev cX4_stall : ByteArray := prog_1_method_18_code
def yX4_stall : MethodName := ⟨RX4, "stall", "()I"⟩
abbrev cX4_thingOf : ByteArray := prog_1_method_19_code
def yX4_thingOf : MethodName := ⟨RX4, "thingOf", "(II)I"⟩
abbrev cX4_buyerOf : ByteArray := prog_1_method_20_code
def yX4_buyerOf : MethodName := ⟨RX4, "buyerOf", "(II)I"⟩
abbrev cX4_slipOf : ByteArray := prog_1_method_21_code
def yX4_slipOf : MethodName := ⟨RX4, "slipOf", "(II)I"⟩
abbrev cX4_drawable : ByteArray := prog_1_method_22_code
def yX4_drawable : MethodName := ⟨RX4, "drawable", "()I"⟩
abbrev cX4_wins : ByteArray := prog_1_method_23_code
def yX4_wins : MethodName := ⟨RX4, "wins", "(I)I"⟩
abbrev cX4_worth : ByteArray := prog_1_method_24_code
def yX4_worth : MethodName := ⟨RX4, "worth", "(I)I"⟩
abbrev cX4_plan : ByteArray := prog_1_method_25_code
def yX4_plan : MethodName := ⟨RX4, "plan", "(I)I"⟩
abbrev cX4_till : ByteArray := prog_1_method_26_code
def yX4_till : MethodName := ⟨RX4, "till", "(I)I"⟩
abbrev cX4_atOnce : ByteArray := prog_1_method_27_code
def yX4_atOnce : MethodName := ⟨RX4, "atOnce", "(I)I"⟩
abbrev cX4_mean : ByteArray := prog_1_method_28_code
def yX4_mean : MethodName := ⟨RX4, "mean", "(II)I"⟩
abbrev cX4_all : ByteArray := prog_1_method_29_code
def yX4_all : MethodName := ⟨RX4, "all", "(I)I"⟩
abbrev cX4_takings : ByteArray := prog_1_method_30_code
def yX4_takings : MethodName := ⟨RX4, "takings", "(I)I"⟩
abbrev cX4_bestPrice : ByteArray := prog_1_method_31_code
def yX4_bestPrice : MethodName := ⟨RX4, "bestPrice", "()I"⟩
abbrev cX4_full : ByteArray := prog_1_method_32_code
def yX4_full : MethodName := ⟨RX4, "full", "()I"⟩
abbrev cX4_guess : ByteArray := prog_1_method_33_code
def yX4_guess : MethodName := ⟨RX4, "guess", "(II)I"⟩
abbrev cX4_suspect : ByteArray := prog_1_method_34_code
def yX4_suspect : MethodName := ⟨RX4, "suspect", "(II)I"⟩
abbrev cX4_sure : ByteArray := prog_1_method_35_code
def yX4_sure : MethodName := ⟨RX4, "sure", "(II)I"⟩
abbrev cX4_left : ByteArray := prog_1_method_36_code
def yX4_left : MethodName := ⟨RX4, "left", "(I)I"⟩
abbrev cX4_judge : ByteArray := prog_1_method_37_code
def yX4_judge : MethodName := ⟨RX4, "judge", "(II)I"⟩
abbrev cX4_won : ByteArray := prog_1_method_38_code
def yX4_won : MethodName := ⟨RX4, "won", "(II)I"⟩
abbrev cX4_booked : ByteArray := prog_1_method_39_code
def yX4_booked : MethodName := ⟨RX4, "booked", "(III)I"⟩
abbrev cX4_chain : ByteArray := prog_1_method_40_code
def yX4_chain : MethodName := ⟨RX4, "chain", "(I)I"⟩
abbrev cX4_dearest : ByteArray := prog_1_method_41_code
def yX4_dearest : MethodName := ⟨RX4, "dearest", "(I)I"⟩
abbrev cX4_fondest : ByteArray := prog_1_method_42_code
def yX4_fondest : MethodName := ⟨RX4, "fondest", "(I)I"⟩
abbrev cX4_envy : ByteArray := prog_1_method_43_code
def yX4_envy : MethodName := ⟨RX4, "envy", "()I"⟩
abbrev cX4_poorest : ByteArray := prog_1_method_44_code
def yX4_poorest : MethodName := ⟨RX4, "poorest", "()I"⟩
abbrev cX4_oldest : ByteArray := prog_1_method_45_code
def yX4_oldest : MethodName := ⟨RX4, "oldest", "()I"⟩
abbrev cX4_go : ByteArray := prog_1_method_46_code
def yX4_go : MethodName := ⟨RX4, "go", "(I)I"⟩
abbrev cX4_five : ByteArray := prog_1_method_47_code
def yX4_five : MethodName := ⟨RX4, "five", "(I)I"⟩
abbrev cX4_plays : ByteArray := prog_1_method_48_code
def yX4_plays : MethodName := ⟨RX4, "plays", "(I)I"⟩
abbrev cX4_fete : ByteArray := prog_1_method_49_code
def yX4_fete : MethodName := ⟨RX4, "fete", "(I)I"⟩
abbrev cX4_seed : ByteArray := prog_1_method_50_code
def yX4_seed : MethodName := ⟨RX4, "seed", "(I)I"⟩
abbrev cX4_image : ByteArray := prog_1_method_51_code
def yX4_image : MethodName := ⟨RX4, "image", "()I"⟩
abbrev cX4_back : ByteArray := prog_1_method_52_code
def yX4_back : MethodName := ⟨RX4, "back", "()I"⟩
abbrev cX4_status : ByteArray := prog_1_method_53_code
def yX4_status : MethodName := ⟨RX4, "status", "(I)I"⟩
abbrev cX4_refuse : ByteArray := prog_1_method_54_code
def yX4_refuse : MethodName := ⟨RX4, "refuse", "(I)I"⟩
abbrev cX4_isWithin : ByteArray := prog_1_method_55_code
def yX4_isWithin : MethodName := ⟨RX4, "isWithin", "(III)Z"⟩
abbrev cX4_asNumber : ByteArray := prog_1_method_56_code
def yX4_asNumber : MethodName := ⟨RX4, "asNumber", "(Z)I"⟩
abbrev cX4_isShelf : ByteArray := prog_1_method_57_code
def yX4_isShelf : MethodName := ⟨RX4, "isShelf", "(I)Z"⟩
abbrev cX4_isUnder : ByteArray := prog_1_method_58_code
def yX4_isUnder : MethodName := ⟨RX4, "isUnder", "(II)Z"⟩
abbrev cX4_lackOfRows : ByteArray := prog_1_method_59_code
def yX4_lackOfRows : MethodName := ⟨RX4, "lackOfRows", "(LEndsInFive$Shelf;LEndsInFive$Shelf;)I"⟩
abbrev cX4_lackOfBook : ByteArray := prog_1_method_60_code
def yX4_lackOfBook : MethodName := ⟨RX4, "lackOfBook", "(II)I"⟩
abbrev cX4_firstWrong : ByteArray := prog_1_method_61_code
def yX4_firstWrong : MethodName := ⟨RX4, "firstWrong", "(III)I"⟩
abbrev cX4_wordOf : ByteArray := prog_1_method_62_code
def yX4_wordOf : MethodName := ⟨RX4, "wordOf", "(II)I"⟩
abbrev cX4_meanOfGoes : ByteArray := prog_1_method_63_code
def yX4_meanOfGoes : MethodName := ⟨RX4, "meanOfGoes", "(II)I"⟩
abbrev cX4_sureness : ByteArray := prog_1_method_64_code
def yX4_sureness : MethodName := ⟨RX4, "sureness", "(II)I"⟩
abbrev cX4_countShelvesInUse : ByteArray := prog_1_method_65_code
def yX4_countShelvesInUse : MethodName := ⟨RX4, "countShelvesInUse", "()I"⟩
def RX5 : String := "EndsInFiveModel"
def TX5 : u_T := fun k => match k with
  | 0 => ("EndsInFiveModel", "shelf", "[I", true)
  | 1 => ("EndsInFiveModel", "rowSort", "[I", true)
  | 2 => ("EndsInFiveModel", "rowSize", "[I", true)
  | 3 => ("EndsInFiveModel", "rows", "[[J", true)
  | 4 => ("EndsInFiveModel", "moved", "[J", true)
  | 5 => ("EndsInFiveModel", "shown", "[I", true)
  | 6 => ("EndsInFiveModel", "tape", "[I", true)
  | 7 => ("EndsInFiveModel", "tapeSize", "I", false)
  | 8 => ("EndsInFiveModel", "refused", "[I", true)
  | 9 => ("EndsInFiveModel", "slips", "I", false)
  | 10 => ("EndsInFiveModel", "rule", "I", false)
  | 11 => ("EndsInFiveModel", "price", "I", false)
  | 12 => ("EndsInFiveModel", "five", "I", false)
  | 13 => ("EndsInFiveModel", "goes", "I", false)
  | 14 => ("EndsInFiveModel", "taken", "I", false)
  | 15 => ("EndsInFiveModel", "seed", "I", false)
  | 16 => ("EndsInFiveModel", "out", "[I", true)
  | 17 => ("EndsInFiveModel", "things", "I", false)
  | 18 => ("EndsInFiveModel", "kind", "[I", true)
  | 19 => ("EndsInFiveModel", "slip", "[I", true)
  | 20 => ("EndsInFiveModel", "by", "[I", true)
  | 21 => ("EndsInFiveModel", "age", "[I", true)
  | 22 => ("EndsInFiveModel", "has", "[I", true)
  | 23 => ("EndsInFiveModel", "buyers", "I", false)
  | 24 => ("EndsInFiveModel", "purse", "[I", true)
  | 25 => ("EndsInFiveModel", "likes", "[[I", true)
  | 26 => ("EndsInFiveModel", "kept", "LEndsInFiveModel;", false)
  | 27 => ("EndsInFiveModel", "tried", "LEndsInFiveModel;", false)
  | 28 => ("EndsInFiveModel", "at", "I", false)
  | 29 => ("EndsInFiveModel", "token", "I", false)
  | 30 => ("EndsInFiveModel", "from", "I", false)
  | 31 => ("EndsInFiveModel", "figures", "I", false)
  | 32 => ("EndsInFiveModel", "fault", "I", false)
  | 33 => ("EndsInFiveModel", "told", "[I", true)
  | 34 => ("EndsInFiveModel", "statements", "I", false)
  | 35 => ("EndsInFiveModel", "values", "[[J", false)
  | 36 => ("EndsInFiveModel", "valueOf", "I", false)
  | 37 => ("EndsInFiveModel", "valueFrom", "I", false)
  | 38 => ("EndsInFiveModel", "valueInside", "I", false)
  | 39 => ("EndsInFiveModel", "valueGoes", "I", false)
  | _ => ("EndsInFiveModel", "wonAll", "I", false)
def tyX5 : Nat → FieldType := fun k => match k with
  | 0 => .array .int
  | 1 => .array .int
  | 2 => .array .int
  | 3 => .array (.array .long)
  | 4 => .array .long
  | 5 => .array .int
  | 6 => .array .int
  | 7 => .int
  | 8 => .array .int
  | 9 => .int
  | 10 => .int
  | 11 => .int
  | 12 => .int
  | 13 => .int
  | 14 => .int
  | 15 => .int
  | 16 => .array .int
  | 17 => .int
  | 18 => .array .int
  | 19 => .array .int
  | 20 => .array .int
  | 21 => .array .int
  | 22 => .array .int
  | 23 => .int
  | 24 => .array .int
  | 25 => .array (.array .int)
  | 26 => .object "EndsInFiveModel"
  | 27 => .object "EndsInFiveModel"
  | 28 => .int
  | 29 => .int
  | 30 => .int
  | 31 => .int
  | 32 => .int
  | 33 => .array .int
  | 34 => .int
  | 35 => .array (.array .long)
  | 36 => .int
  | 37 => .int
  | 38 => .int
  | 39 => .int
  | _ => .int
abbrev wsX50 : List Cond := u_ws RX5 TX5 41
theorem nmX5 : ∀ a, a < 41 → ∀ b, b < 41 → a ≠ b → (TX5 a).2.1 ≠ (TX5 b).2.1 := by decide +kernel
theorem tyX5_ok : ∀ k, k < 41 → parseFieldDescriptor (TX5 k).2.2.1 = some (tyX5 k) := by decide +kernel
abbrev cX5_init : ByteArray := prog_7_method_1_code
def yX5_init : MethodName := ⟨RX5, "<init>", "()V"⟩
abbrev cX5_refuse : ByteArray := prog_7_method_2_code
def yX5_refuse : MethodName := ⟨RX5, "refuse", "(I)I"⟩
abbrev cX5_in : ByteArray := prog_7_method_3_code
def yX5_in : MethodName := ⟨RX5, "in", "(JJJ)Z"⟩
abbrev cX5_isThing : ByteArray := prog_7_method_4_code
def yX5_isThing : MethodName := ⟨RX5, "isThing", "(I)Z"⟩
abbrev cX5_isBuyer : ByteArray := prog_7_method_5_code
def yX5_isBuyer : MethodName := ⟨RX5, "isBuyer", "(I)Z"⟩
abbrev cX5_inside : ByteArray := prog_7_method_6_code
def yX5_inside : MethodName := ⟨RX5, "inside", "()I"⟩
abbrev cX5_bits : ByteArray := prog_7_method_7_code
def yX5_bits : MethodName := ⟨RX5, "bits", "(I)I"⟩
abbrev cX5_standing : ByteArray := prog_7_method_8_code
def yX5_standing : MethodName := ⟨RX5, "standing", "()I"⟩
abbrev cX5_thingOn : ByteArray := prog_7_method_9_code
def yX5_thingOn : MethodName := ⟨RX5, "thingOn", "(I)I"⟩
abbrev cX5_row : ByteArray := prog_7_method_10_code
def yX5_row : MethodName := ⟨RX5, "row", "(III)I"⟩
abbrev cX5_fit : ByteArray := prog_7_method_11_code
def yX5_fit : MethodName := ⟨RX5, "fit", "(IJ)J"⟩
abbrev cX5_noRow : ByteArray := prog_7_method_12_code
def yX5_noRow : MethodName := ⟨RX5, "noRow", "(I)I"⟩
abbrev cX5_set : ByteArray := prog_7_method_13_code
def yX5_set : MethodName := ⟨RX5, "set", "(IIJ)I"⟩
abbrev cX5_copy : ByteArray := prog_7_method_14_code
def yX5_copy : MethodName := ⟨RX5, "copy", "(IIIII)I"⟩
abbrev cX5_element : ByteArray := prog_7_method_15_code
def yX5_element : MethodName := ⟨RX5, "element", "(II)J"⟩
abbrev cX5_holds : ByteArray := prog_7_method_16_code
def yX5_holds : MethodName := ⟨RX5, "holds", "(I)I"⟩
abbrev cX5_show : ByteArray := prog_7_method_17_code
def yX5_show : MethodName := ⟨RX5, "show", "(II)I"⟩
abbrev cX5_isUnder : ByteArray := prog_7_method_18_code
def yX5_isUnder : MethodName := ⟨RX5, "isUnder", "(II)Z"⟩
abbrev cX5_says : ByteArray := prog_7_method_19_code
def yX5_says : MethodName := ⟨RX5, "says", "(II)I"⟩
abbrev cX5_becomeSlips : ByteArray := prog_7_method_20_code
def yX5_becomeSlips : MethodName := ⟨RX5, "becomeSlips", "(I)V"⟩
abbrev cX5_slips : ByteArray := prog_7_method_21_code
def yX5_slips : MethodName := ⟨RX5, "slips", "(I)I"⟩
abbrev cX5_rule : ByteArray := prog_7_method_22_code
def yX5_rule : MethodName := ⟨RX5, "rule", "(I)I"⟩
abbrev cX5_price : ByteArray := prog_7_method_23_code
def yX5_price : MethodName := ⟨RX5, "price", "(II)I"⟩
abbrev cX5_isWinner : ByteArray := prog_7_method_24_code
def yX5_isWinner : MethodName := ⟨RX5, "isWinner", "(I)Z"⟩
abbrev cX5_addThing : ByteArray := prog_7_method_25_code
def yX5_addThing : MethodName := ⟨RX5, "addThing", "(III)V"⟩
abbrev cX5_thing : ByteArray := prog_7_method_26_code
def yX5_thing : MethodName := ⟨RX5, "thing", "(III)I"⟩
abbrev cX5_addBuyer : ByteArray := prog_7_method_27_code
def yX5_addBuyer : MethodName := ⟨RX5, "addBuyer", "(I)V"⟩
abbrev cX5_buyer : ByteArray := prog_7_method_28_code
def yX5_buyer : MethodName := ⟨RX5, "buyer", "(I)I"⟩
abbrev cX5_likes : ByteArray := prog_7_method_29_code
def yX5_likes : MethodName := ⟨RX5, "likes", "(III)I"⟩
abbrev cX5_purse : ByteArray := prog_7_method_30_code
def yX5_purse : MethodName := ⟨RX5, "purse", "(II)I"⟩
abbrev cX5_feed : ByteArray := prog_7_method_31_code
def yX5_feed : MethodName := ⟨RX5, "feed", "(I)I"⟩
abbrev cX5_wipe : ByteArray := prog_7_method_32_code
def yX5_wipe : MethodName := ⟨RX5, "wipe", "()I"⟩
abbrev cX5_isLetter : ByteArray := prog_7_method_33_code
def yX5_isLetter : MethodName := ⟨RX5, "isLetter", "(I)Z"⟩
abbrev cX5_isDigit : ByteArray := prog_7_method_34_code
def yX5_isDigit : MethodName := ⟨RX5, "isDigit", "(I)Z"⟩
abbrev cX5_look : ByteArray := prog_7_method_35_code
def yX5_look : MethodName := ⟨RX5, "look", "()V"⟩
abbrev cX5_wrong : ByteArray := prog_7_method_36_code
def yX5_wrong : MethodName := ⟨RX5, "wrong", "()Z"⟩
abbrev cX5_isWord : ByteArray := prog_7_method_37_code
def yX5_isWord : MethodName := ⟨RX5, "isWord", "(Ljava/lang/String;)Z"⟩
abbrev cX5_number : ByteArray := prog_7_method_38_code
def yX5_number : MethodName := ⟨RX5, "number", "(III)Z"⟩
abbrev cX5_tells : ByteArray := prog_7_method_39_code
def yX5_tells : MethodName := ⟨RX5, "tells", "(II)Z"⟩
abbrev cX5_priceTold : ByteArray := prog_7_method_40_code
def yX5_priceTold : MethodName := ⟨RX5, "priceTold", "()Z"⟩
abbrev cX5_thingTold : ByteArray := prog_7_method_41_code
def yX5_thingTold : MethodName := ⟨RX5, "thingTold", "()Z"⟩
abbrev cX5_outTold : ByteArray := prog_7_method_42_code
def yX5_outTold : MethodName := ⟨RX5, "outTold", "()Z"⟩
abbrev cX5_statement : ByteArray := prog_7_method_43_code
def yX5_statement : MethodName := ⟨RX5, "statement", "()Z"⟩
abbrev cX5_readAll : ByteArray := prog_7_method_44_code
def yX5_readAll : MethodName := ⟨RX5, "readAll", "()Z"⟩
abbrev cX5_stall : ByteArray := prog_7_method_45_code
def yX5_stall : MethodName := ⟨RX5, "stall", "()I"⟩
abbrev cX5_thingOf : ByteArray := prog_7_method_46_code
def yX5_thingOf : MethodName := ⟨RX5, "thingOf", "(II)I"⟩
abbrev cX5_owned : ByteArray := prog_7_method_47_code
def yX5_owned : MethodName := ⟨RX5, "owned", "(I)I"⟩
abbrev cX5_liked : ByteArray := prog_7_method_48_code
def yX5_liked : MethodName := ⟨RX5, "liked", "(II)I"⟩
abbrev cX5_buyerOf : ByteArray := prog_7_method_49_code
def yX5_buyerOf : MethodName := ⟨RX5, "buyerOf", "(II)I"⟩
abbrev cX5_brought : ByteArray := prog_7_method_50_code
def yX5_brought : MethodName := ⟨RX5, "brought", "(II)I"⟩
abbrev cX5_wonBy : ByteArray := prog_7_method_51_code
def yX5_wonBy : MethodName := ⟨RX5, "wonBy", "(II)I"⟩
abbrev cX5_isFree : ByteArray := prog_7_method_52_code
def yX5_isFree : MethodName := ⟨RX5, "isFree", "(III)Z"⟩
abbrev cX5_canDraw : ByteArray := prog_7_method_53_code
def yX5_canDraw : MethodName := ⟨RX5, "canDraw", "(I)Z"⟩
abbrev cX5_drawableMany : ByteArray := prog_7_method_54_code
def yX5_drawableMany : MethodName := ⟨RX5, "drawableMany", "()I"⟩
abbrev cX5_drawable : ByteArray := prog_7_method_55_code
def yX5_drawable : MethodName := ⟨RX5, "drawable", "()I"⟩
abbrev cX5_slipOf : ByteArray := prog_7_method_56_code
def yX5_slipOf : MethodName := ⟨RX5, "slipOf", "(II)I"⟩
abbrev cX5_winsBy : ByteArray := prog_7_method_57_code
def yX5_winsBy : MethodName := ⟨RX5, "winsBy", "(I)I"⟩
abbrev cX5_wins : ByteArray := prog_7_method_58_code
def yX5_wins : MethodName := ⟨RX5, "wins", "(I)I"⟩
abbrev cX5_worthTo : ByteArray := prog_7_method_59_code
def yX5_worthTo : MethodName := ⟨RX5, "worthTo", "(I)I"⟩
abbrev cX5_worth : ByteArray := prog_7_method_60_code
def yX5_worth : MethodName := ⟨RX5, "worth", "(I)I"⟩
abbrev cX5_beginValues : ByteArray := prog_7_method_61_code
def yX5_beginValues : MethodName := ⟨RX5, "beginValues", "(II)V"⟩
abbrev cX5_valueAt : ByteArray := prog_7_method_62_code
def yX5_valueAt : MethodName := ⟨RX5, "valueAt", "(II)J"⟩
abbrev cX5_foundAt : ByteArray := prog_7_method_63_code
def yX5_foundAt : MethodName := ⟨RX5, "foundAt", "(II)J"⟩
abbrev cX5_planOf : ByteArray := prog_7_method_64_code
def yX5_planOf : MethodName := ⟨RX5, "planOf", "(I)I"⟩
abbrev cX5_plan : ByteArray := prog_7_method_65_code
def yX5_plan : MethodName := ⟨RX5, "plan", "(I)I"⟩
abbrev cX5_till : ByteArray := prog_7_method_66_code
def yX5_till : MethodName := ⟨RX5, "till", "(I)I"⟩
abbrev cX5_meanOf : ByteArray := prog_7_method_67_code
def yX5_meanOf : MethodName := ⟨RX5, "meanOf", "(II)J"⟩
abbrev cX5_mean : ByteArray := prog_7_method_68_code
def yX5_mean : MethodName := ⟨RX5, "mean", "(II)I"⟩
abbrev cX5_atOnce : ByteArray := prog_7_method_69_code
def yX5_atOnce : MethodName := ⟨RX5, "atOnce", "(I)I"⟩
abbrev cX5_all : ByteArray := prog_7_method_70_code
def yX5_all : MethodName := ⟨RX5, "all", "(I)I"⟩
abbrev cX5_takingsAt : ByteArray := prog_7_method_71_code
def yX5_takingsAt : MethodName := ⟨RX5, "takingsAt", "(I)I"⟩
abbrev cX5_takings : ByteArray := prog_7_method_72_code
def yX5_takings : MethodName := ⟨RX5, "takings", "(I)I"⟩
abbrev cX5_bestPrice : ByteArray := prog_7_method_73_code
def yX5_bestPrice : MethodName := ⟨RX5, "bestPrice", "()I"⟩
abbrev cX5_fullWith : ByteArray := prog_7_method_74_code
def yX5_fullWith : MethodName := ⟨RX5, "fullWith", "(I)I"⟩
abbrev cX5_full : ByteArray := prog_7_method_75_code
def yX5_full : MethodName := ⟨RX5, "full", "()I"⟩
abbrev cX5_guess : ByteArray := prog_7_method_76_code
def yX5_guess : MethodName := ⟨RX5, "guess", "(II)I"⟩
abbrev cX5_suspected : ByteArray := prog_7_method_77_code
def yX5_suspected : MethodName := ⟨RX5, "suspected", "(II)I"⟩
abbrev cX5_suspect : ByteArray := prog_7_method_78_code
def yX5_suspect : MethodName := ⟨RX5, "suspect", "(II)I"⟩
abbrev cX5_sure : ByteArray := prog_7_method_79_code
def yX5_sure : MethodName := ⟨RX5, "sure", "(II)I"⟩
abbrev cX5_left : ByteArray := prog_7_method_80_code
def yX5_left : MethodName := ⟨RX5, "left", "(I)I"⟩
abbrev cX5_noBook : ByteArray := prog_7_method_81_code
def yX5_noBook : MethodName := ⟨RX5, "noBook", "(II)I"⟩
abbrev cX5_comesOut : ByteArray := prog_7_method_82_code
def yX5_comesOut : MethodName := ⟨RX5, "comesOut", "(II)I"⟩
abbrev cX5_wrongIn : ByteArray := prog_7_method_83_code
def yX5_wrongIn : MethodName := ⟨RX5, "wrongIn", "([JI)I"⟩
abbrev cX5_judge : ByteArray := prog_7_method_84_code
def yX5_judge : MethodName := ⟨RX5, "judge", "(II)I"⟩
abbrev cX5_won : ByteArray := prog_7_method_85_code
def yX5_won : MethodName := ⟨RX5, "won", "(II)I"⟩
abbrev cX5_booked : ByteArray := prog_7_method_86_code
def yX5_booked : MethodName := ⟨RX5, "booked", "(III)I"⟩
abbrev cX5_chain : ByteArray := prog_7_method_87_code
def yX5_chain : MethodName := ⟨RX5, "chain", "(I)I"⟩
abbrev cX5_comesOn : ByteArray := prog_7_method_88_code
def yX5_comesOn : MethodName := ⟨RX5, "comesOn", "(III[Z)V"⟩
abbrev cX5_dearest : ByteArray := prog_7_method_89_code
def yX5_dearest : MethodName := ⟨RX5, "dearest", "(I)I"⟩
abbrev cX5_fondest : ByteArray := prog_7_method_90_code
def yX5_fondest : MethodName := ⟨RX5, "fondest", "(I)I"⟩
abbrev cX5_envy : ByteArray := prog_7_method_91_code
def yX5_envy : MethodName := ⟨RX5, "envy", "()I"⟩
abbrev cX5_poorest : ByteArray := prog_7_method_92_code
def yX5_poorest : MethodName := ⟨RX5, "poorest", "()I"⟩
abbrev cX5_oldest : ByteArray := prog_7_method_93_code
def yX5_oldest : MethodName := ⟨RX5, "oldest", "()I"⟩
abbrev cX5_below : ByteArray := prog_7_method_94_code
def yX5_below : MethodName := ⟨RX5, "below", "(I)I"⟩
abbrev cX5_drawn : ByteArray := prog_7_method_95_code
def yX5_drawn : MethodName := ⟨RX5, "drawn", "()I"⟩
abbrev cX5_goesOne : ByteArray := prog_7_method_96_code
def yX5_goesOne : MethodName := ⟨RX5, "goesOne", "(I)I"⟩
abbrev cX5_go : ByteArray := prog_7_method_97_code
def yX5_go : MethodName := ⟨RX5, "go", "(I)I"⟩
abbrev cX5_five : ByteArray := prog_7_method_98_code
def yX5_five : MethodName := ⟨RX5, "five", "(I)I"⟩
abbrev cX5_plays : ByteArray := prog_7_method_99_code
def yX5_plays : MethodName := ⟨RX5, "plays", "(I)I"⟩
abbrev cX5_fete : ByteArray := prog_7_method_100_code
def yX5_fete : MethodName := ⟨RX5, "fete", "(I)I"⟩
abbrev cX5_seed : ByteArray := prog_7_method_101_code
def yX5_seed : MethodName := ⟨RX5, "seed", "(I)I"⟩
abbrev cX5_fresh : ByteArray := prog_7_method_102_code
def yX5_fresh : MethodName := ⟨RX5, "fresh", "()LEndsInFiveModel;"⟩
abbrev cX5_over : ByteArray := prog_7_method_103_code
def yX5_over : MethodName := ⟨RX5, "over", "([I[I)V"⟩
abbrev cX5_takeFrom : ByteArray := prog_7_method_104_code
def yX5_takeFrom : MethodName := ⟨RX5, "takeFrom", "(LEndsInFiveModel;)V"⟩
abbrev cX5_image : ByteArray := prog_7_method_105_code
def yX5_image : MethodName := ⟨RX5, "image", "()I"⟩
abbrev cX5_back : ByteArray := prog_7_method_106_code
def yX5_back : MethodName := ⟨RX5, "back", "()I"⟩
abbrev cX5_status : ByteArray := prog_7_method_107_code
def yX5_status : MethodName := ⟨RX5, "status", "(I)I"⟩
def RJ6 : String := "java/lang/Integer"
def TJ6 : u_T := fun k => match k with
  | _ => ("", "", "", false)
def tyJ6 : Nat → FieldType := fun k => match k with
  | _ => .int
abbrev wsJ60 : List Cond := u_ws RJ6 TJ6 0
theorem nmJ6 : ∀ a, a < 0 → ∀ b, b < 0 → a ≠ b → (TJ6 a).2.1 ≠ (TJ6 b).2.1 := by decide +kernel
theorem tyJ6_ok : ∀ k, k < 0 → parseFieldDescriptor (TJ6 k).2.2.1 = some (tyJ6 k) := by decide +kernel
abbrev cJ6_bitCount_0f7a4 : ByteArray := prog_8_method_49_code
def yJ6_bitCount_0f7a4 : MethodName := ⟨RJ6, "bitCount", "(I)I"⟩
def RJ13 : String := "java/lang/Long"
def TJ13 : u_T := fun k => match k with
  | _ => ("", "", "", false)
def tyJ13 : Nat → FieldType := fun k => match k with
  | _ => .int
abbrev wsJ130 : List Cond := u_ws RJ13 TJ13 0
theorem nmJ13 : ∀ a, a < 0 → ∀ b, b < 0 → a ≠ b → (TJ13 a).2.1 ≠ (TJ13 b).2.1 := by decide +kernel
theorem tyJ13_ok : ∀ k, k < 0 → parseFieldDescriptor (TJ13 k).2.2.1 = some (tyJ13 k) := by decide +kernel
abbrev cJ13_bitCount_95d88 : ByteArray := prog_9_method_50_code
def yJ13_bitCount_95d88 : MethodName := ⟨RJ13, "bitCount", "(J)I"⟩
def RJ9 : String := "java/lang/Math"
def TJ9 : u_T := fun k => match k with
  | _ => ("", "", "", false)
def tyJ9 : Nat → FieldType := fun k => match k with
  | _ => .int
abbrev wsJ90 : List Cond := u_ws RJ9 TJ9 0
theorem nmJ9 : ∀ a, a < 0 → ∀ b, b < 0 → a ≠ b → (TJ9 a).2.1 ≠ (TJ9 b).2.1 := by decide +kernel
theorem tyJ9_ok : ∀ k, k < 0 → parseFieldDescriptor (TJ9 k).2.2.1 = some (tyJ9 k) := by decide +kernel
def RJ0 : String := "java/lang/String"
def TJ0 : u_T := fun k => match k with
  | _ => ("", "", "", false)
def tyJ0 : Nat → FieldType := fun k => match k with
  | _ => .int
abbrev wsJ00 : List Cond := u_ws RJ0 TJ0 0
theorem nmJ0 : ∀ a, a < 0 → ∀ b, b < 0 → a ≠ b → (TJ0 a).2.1 ≠ (TJ0 b).2.1 := by decide +kernel
theorem tyJ0_ok : ∀ k, k < 0 → parseFieldDescriptor (TJ0 k).2.2.1 = some (tyJ0 k) := by decide +kernel
abbrev cJ0_length_8abf5 : ByteArray := prog_11_method_54_code
def yJ0_length_8abf5 : MethodName := ⟨RJ0, "length", "()I"⟩
abbrev cJ0_charAt_5068e : ByteArray := prog_11_method_56_code
def yJ0_charAt_5068e : MethodName := ⟨RJ0, "charAt", "(I)C"⟩
abbrev cJ0_coder_7d493 : ByteArray := prog_11_method_152_code
def yJ0_coder_7d493 : MethodName := ⟨RJ0, "coder", "()B"⟩
abbrev cJ0_isLatin1_aae02 : ByteArray := prog_11_method_154_code
def yJ0_isLatin1_aae02 : MethodName := ⟨RJ0, "isLatin1", "()Z"⟩
abbrev cJ0_checkIndex_df160 : ByteArray := prog_11_method_155_code
def yJ0_checkIndex_df160 : MethodName := ⟨RJ0, "checkIndex", "(II)V"⟩
def RJ1 : String := "java/lang/StringLatin1"
def TJ1 : u_T := fun k => match k with
  | _ => ("", "", "", false)
def tyJ1 : Nat → FieldType := fun k => match k with
  | _ => .int
abbrev wsJ10 : List Cond := u_ws RJ1 TJ1 0
theorem nmJ1 : ∀ a, a < 0 → ∀ b, b < 0 → a ≠ b → (TJ1 a).2.1 ≠ (TJ1 b).2.1 := by decide +kernel
theorem tyJ1_ok : ∀ k, k < 0 → parseFieldDescriptor (TJ1 k).2.2.1 = some (tyJ1 k) := by decide +kernel
abbrev cJ1_charAt_3b067 : ByteArray := prog_12_method_2_code
def yJ1_charAt_3b067 : MethodName := ⟨RJ1, "charAt", "([BI)C"⟩
def RJ2 : String := "java/lang/StringUTF16"
def TJ2 : u_T := fun k => match k with
  | _ => ("", "", "", false)
def tyJ2 : Nat → FieldType := fun k => match k with
  | _ => .int
abbrev wsJ20 : List Cond := u_ws RJ2 TJ2 0
theorem nmJ2 : ∀ a, a < 0 → ∀ b, b < 0 → a ≠ b → (TJ2 a).2.1 ≠ (TJ2 b).2.1 := by decide +kernel
theorem tyJ2_ok : ∀ k, k < 0 → parseFieldDescriptor (TJ2 k).2.2.1 = some (tyJ2 k) := by decide +kernel
def RJ10 : String := "java/lang/System"
def TJ10 : u_T := fun k => match k with
  | _ => ("", "", "", false)
def tyJ10 : Nat → FieldType := fun k => match k with
  | _ => .int
abbrev wsJ100 : List Cond := u_ws RJ10 TJ10 0
theorem nmJ10 : ∀ a, a < 0 → ∀ b, b < 0 → a ≠ b → (TJ10 a).2.1 ≠ (TJ10 b).2.1 := by decide +kernel
theorem tyJ10_ok : ∀ k, k < 0 → parseFieldDescriptor (TJ10 k).2.2.1 = some (tyJ10 k) := by decide +kernel
def RJ3 : String := "jdk/internal/util/Preconditions"
def TJ3 : u_T := fun k => match k with
  | _ => ("", "", "", false)
def tyJ3 : Nat → FieldType := fun k => match k with
  | _ => .int
abbrev wsJ30 : List Cond := u_ws RJ3 TJ3 0
theorem nmJ3 : ∀ a, a < 0 → ∀ b, b < 0 → a ≠ b → (TJ3 a).2.1 ≠ (TJ3 b).2.1 := by decide +kernel
theorem tyJ3_ok : ∀ k, k < 0 → parseFieldDescriptor (TJ3 k).2.2.1 = some (tyJ3 k) := by decide +kernel
abbrev cJ3_checkIndex_8e157 : ByteArray := prog_15_method_11_code
def yJ3_checkIndex_8e157 : MethodName := ⟨RJ3, "checkIndex", "(IILjava/util/function/BiFunction;)I"⟩
def RL : String := "EndsInFiveLaw"
abbrev cL_law : ByteArray := code
def yL_law : MethodName := ⟨RL, "law", "([I)Z"⟩
abbrev vwCl : List vw_C := [(RX0, TX0, 3), (RX1, TX1, 17), (RX2, TX2, 6), (RX3, TX3, 7), (RX4, TX4, 8), (RX5, TX5, 41)]
