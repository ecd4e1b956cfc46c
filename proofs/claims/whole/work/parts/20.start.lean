def zixs : List Nat := [38, 47, 52, 57, 62, 67, 72, 94]
def ztm (i : Nat) : Term := Term.string "EndsInFive$Tape" (zixs.getD i 0)
abbrev zFl : List Cond := flatC (Jvm.Cond.and given_1 narrow_1)
theorem zn1 : ∀ i, i < 8 → Cond.exactly (ztm i) "java/lang/String" ∈ zFl := by decide +kernel
theorem zn2 : ∀ i, i < 8 → Cond.eq (.field (ztm i) "java/lang/String" "coder" "B") (.int 0) ∈ zFl := by decide +kernel
theorem zn3 : ∀ i, i < 8 → Cond.arrayOf (.field (ztm i) "java/lang/String" "value" "[B") .byte ∈ zFl := by decide +kernel
theorem zn4 : ∀ i, i < 8 → Cond.eq (.length (.field (ztm i) "java/lang/String" "value" "[B")) (.int (Int32.ofNat (zlens.getD i 0))) ∈ zFl := by decide +kernel
theorem zn5 : ∀ i, i < 8 → ∀ j, j < zlens.getD i 0 → Cond.eq (.elem (.field (ztm i) "java/lang/String" "value" "[B") (.int (Int32.ofNat j))) (.int ((zbyts.getD i []).getD j 0)) ∈ zFl := by decide +kernel
theorem zn6 : ∀ i, i < 8 → ∀ j, j < 8 → i ≠ j → Cond.not (Cond.eq (ztm i) (ztm j)) ∈ zFl ∨ Cond.not (Cond.eq (ztm j) (ztm i)) ∈ zFl := by decide +kernel
theorem zn7 : Cond.eq (.static "java/lang/String" "COMPACT_STRINGS" "Z") (.int 1) ∈ zFl := by decide +kernel
theorem zn8 : ∀ q ∈ zst, q.2.2.2 < 8 ∧ Cond.stringRef q.1 q.2.1 q.2.2.1 ∈ lw_tbl ∧ ((q.1 = "EndsInFive$Tape" ∧ q.2.1 = zixs.getD q.2.2.2 0) ∨ Cond.eq (ztm q.2.2.2) (.string q.1 q.2.1) ∈ zFl) := by decide +kernel
theorem zn9 : Cond.laysStatic "java/lang/String" "COMPACT_STRINGS" "Z" ∈ lw_tbl ∧ Cond.initialized "java/lang/String" ∈ lw_tbl := by decide +kernel
theorem zn10 : Cond.arrayOver (.object RX0) ∈ lw_tbl ∧ Cond.arrayOver (.array .long) ∈ lw_tbl ∧ Cond.arrayOver (.array .int) ∈ lw_tbl ∧ Cond.arrayClass .int ∈ lw_tbl ∧ Cond.arrayClass .long ∈ lw_tbl ∧ Cond.arrayClass .boolean ∈ lw_tbl := by decide +kernel
theorem zn11 : ∀ a, a < 6 → Cond.instantiable (zRf a) (zNf a) ∈ lw_tbl := by decide +kernel
def zunds : List Int32 := [-1, 0, 0, 1, 0, 4]
abbrev zUN : Term := Term.static "EndsInFive" "UNDER" "[I"
theorem zn12 : Cond.arrayOf zUN .int ∈ zFl := by decide +kernel
theorem zn13 : Cond.eq (.length zUN) (.int 6) ∈ zFl := by decide +kernel
theorem zn14 : ∀ j, j < 6 → Cond.eq (.elem zUN (.int (Int32.ofNat j))) (.int (zunds.getD j 0)) ∈ zFl := by decide +kernel
theorem zn15 : Cond.laysStatic "EndsInFive" "UNDER" "[I" ∈ lw_tbl ∧ Cond.initialized "EndsInFive" ∈ lw_tbl := by decide +kernel
theorem zn16 : Cond.isRef (.static "jdk/internal/util/Preconditions" "SIOOBE_FORMATTER" "Ljava/util/function/BiFunction;") ∈ zFl := by decide +kernel
theorem zn17 : Cond.laysStatic "jdk/internal/util/Preconditions" "SIOOBE_FORMATTER" "Ljava/util/function/BiFunction;" ∈ lw_tbl ∧ Cond.initialized "jdk/internal/util/Preconditions" ∈ lw_tbl := by decide +kernel
theorem zn18 : ∀ j, j < 6 → zund[j]? = some (.inl (.int (zunds.getD j 0))) := by decide +kernel
theorem z_arrc {s : State} {args : Array Value} {ty : FieldType} (hne : ∀ C, ty ≠ .object C) (h : (Cond.arrayClass ty).before args s = true) : ∃ c : ClassId, ArrOfT s c ty ∧ va_RA s c ty := by
  obtain ⟨c, k, comp, h1, h2, h3⟩ := Cond.arrayClass_spec h
  refine ⟨c, fun n z => ⟨fun k h => (by cases h), k, h2, comp, h3⟩, ?_⟩
  cases ty <;> first | exact h1 | exact absurd rfl (hne _)
theorem z_arro {s : State} {C : String} (h : va_AO C s) : ∃ c : ClassId, ArrOfT s c (.object C) ∧ va_RA s c (.object C) := by
  obtain ⟨comp, c, k, h1, h2, h3, h4, h5⟩ := Cond.arrayOver_spec h
  exact ⟨c, fun n z => ⟨fun k h => (by cases h), k, h3, comp, h4⟩, k, comp, h3, h4, h1, h5⟩
theorem z_arra {s : State} {ty : FieldType} (h : va_AOA ty s) : ∃ c : ClassId, ArrOfT s c (.array ty) ∧ va_RA s c (.array ty) := by
  obtain ⟨comp, c, k, h1, h2, h3, h4, h5⟩ := va_AOA.spec h
  exact ⟨c, fun n z => ⟨fun k h => (by cases h), k, h3, comp, h4⟩, h5⟩
theorem z_eqR {args : Array Value} {s : State} {t u : Term} {a : Nat} (h : (Cond.eq t u).before args s = true) (ht : t.eval args s none [] s = some (.ref a)) : u.eval args s none [] s = some (.ref a) := by
  cases hu : u.eval args s none [] s with
  | none => simp [Cond.before, Cond.holds, Cond.value, ht, hu] at h
  | some w =>
    cases w <;> simp [Cond.before, Cond.holds, Cond.value, ht, hu] at h
    rw [h]
def zext (b u : Nat) (adK : Nat → Nat) (k : Nat) : Option Nat := if k = 10000000 then some b else if k = 10000001 then some u else if 1000000 ≤ k ∧ k < 1000008 then some (adK (k - 1000000)) else none
theorem z_start {s : State} {b : Nat} (hts : ∀ w ∈ lw_tbl, w.before #[Value.ref b] s = true) (hgv : (Jvm.Cond.and given_1 narrow_1).before #[Value.ref b] s = true) (hbl : b < s.heap.size) :
    ∃ (D : va_G) (ct : Nat → ClassId) (adK adV : Nat → Nat) (u : Nat), va_K D vwCl (ztys ct) s ∧ (∀ w ∈ zTN, va_Nw w s) ∧ va_AO RX0 s ∧ va_AOA .long s ∧ va_AOA .int s ∧
      ∀ (scr : List zV) (xs : Nat → Int32), va_X b scr.length xs s s.heap → (∀ (j : Nat) (v : zV), scr[j]? = some v → zisI v = true ∧ zg (fun _ => none) v (.int (xs j))) → zFacts zst scr adK adV (zext b u adK) (fun q : Nat => s.heap.size ≤ q) s s.heap := by
  have hs : ∀ c ∈ zFl, c.before #[Value.ref b] s = true := flat_of_before _ hgv
  have hA : ∀ a : Nat, a < s.heap.size → ¬ (fun q : Nat => s.heap.size ≤ q) a := fun a h q => absurd q (Nat.not_le.mpr h)
  have hO : va_AO RX0 s := va_AO.of (hts _ zn10.1)
  have hO1 : va_AOA .long s := hts _ zn10.2.1
  have hO2 : va_AOA .int s := hts _ zn10.2.2.1
  have hkn : ∀ a, a < 6 → ∃ (cC : ClassId) (iS : Nat → Nat), u_Kn s (zRf a) (zTf a) (zNf a) cC iS := fun a ha => u_known hts (fun w hw => (List.mem_filter.mp (z_uwsin w (z_uws ha w hw))).1) (hts _ (zn11 a ha))
  have hkn2 : ∀ a : Nat, ∃ q : ClassId × (Nat → Nat), a < 6 → u_Kn s (zRf a) (zTf a) (zNf a) q.1 q.2 := fun a => by
    by_cases ha : a < 6
    · obtain ⟨c, i, h⟩ := hkn a ha
      exact ⟨(c, i), fun _ => h⟩
    · exact ⟨(0, fun _ => 0), fun h => absurd h ha⟩
  obtain ⟨kf, hkf⟩ := Classical.axiomOfChoice hkn2
  obtain ⟨c0, a01, a02⟩ := z_arrc (ty := .int) (fun C h => by cases h) (hts _ zn10.2.2.2.1)
  obtain ⟨c5, a51, a52⟩ := z_arrc (ty := .boolean) (fun C h => by cases h) (hts _ zn10.2.2.2.2.2)
  obtain ⟨c1, a11, a12⟩ := z_arrc (ty := .long) (fun C h => by cases h) (hts _ zn10.2.2.2.2.1)
  obtain ⟨c2, a21, a22⟩ := z_arro hO
  obtain ⟨c3, a31, a32⟩ := z_arra hO1
  obtain ⟨c4, a41, a42⟩ := z_arra hO2
  have hN : ∀ i : Nat, i < 8 → zlens.getD i 0 < 2 ^ 31 := by decide +kernel
  obtain ⟨adK, adV, hSt, hev⟩ := vk_Sof (N := 8) (tm := ztm) (len := zlens) (byt := zbyts) (A := fun q : Nat => s.heap.size ≤ q) hN (fun i hi => hs _ (zn1 i hi)) (fun i hi => hs _ (zn2 i hi)) (fun i hi => hs _ (zn3 i hi)) (fun i hi => hs _ (zn4 i hi)) (fun i hi j hj => hs _ (zn5 i hi j hj)) (fun i j hi hj hij => (zn6 i hi j hj hij).elim (fun h => Or.inl (hs _ h)) (fun h => Or.inr (hs _ h))) hA
  obtain ⟨u, hu, hUT⟩ := va_Tof (tm := zUN) (ty := .int) (N := 6) (f := fun j => .int (zunds.getD j 0)) (A := fun q : Nat => s.heap.size ≤ q) (by decide) (hs _ zn12) (va_eqt (hs _ zn13)) (fun j hj => va_eqt (hs _ (zn14 j hj))) hA
  refine ⟨(fun a => (kf a).1, fun a => (kf a).2), fun t => if t = 0 then c0 else if t = 1 then c1 else if t = 2 then c2 else if t = 3 then c3 else if t = 4 then c4 else c5, adK, adV, u, ⟨?_, ?_⟩, fun w hw => ?_, hO, hO1, hO2, fun scr xs hX hscr => ?_⟩
  · intro c q hq
    have hc : c < 6 := (List.getElem?_eq_some_iff.mp hq).1
    have h1 := z_cl hc
    rw [hq] at h1
    cases h1
    exact hkf c hc
  · intro k q hq
    have hk : k < 6 := (List.getElem?_eq_some_iff.mp hq).1
    match k, hk, hq with
    | 0, _, hq => cases hq; exact ⟨a01, a02⟩
    | 1, _, hq => cases hq; exact ⟨a11, a12⟩
    | 2, _, hq => cases hq; exact ⟨a21, a22⟩
    | 3, _, hq => cases hq; exact ⟨a31, a32⟩
    | 4, _, hq => cases hq; exact ⟨a41, a42⟩
    | 5, _, hq => cases hq; exact ⟨a51, a52⟩
  · obtain ⟨_, _, _, _, rfl⟩ := zTNok_TN w hw
    exact va_Nw.of rfl (hts _ (List.mem_filter.mp hw).1)
  · refine ⟨fun q hq => ?_, fun i hi => ?_, hSt, va_Zof (hts _ zn9.1) (hts _ zn9.2) (va_eqt (hs _ zn7)) hA, ⟨b, xs, ?_, Nat.not_le.mpr hbl, hbl, hX, hscr⟩, ⟨u, fun j => zunds.getD j 0, ?_, hUT, va_Zref (hts _ zn15.1) (hts _ zn15.2) hu hA, fun j v hv => ?_⟩, va_Zqof (hts _ zn17.1) (hts _ zn17.2) (hs _ zn16) hA⟩
    · obtain ⟨q1, q2, q3⟩ := zn8 q hq
      refine ⟨vk_R.of (hts _ q2) ?_, q1⟩
      rcases q3 with ⟨e1, e2⟩ | q3
      · have h1 := hev _ q1
        unfold ztm at h1
        rw [e1, e2]
        exact h1
      · exact z_eqR (hs _ q3) (hev _ q1)
    · unfold zext
      rw [if_neg (by omega), if_neg (by omega), if_pos (by omega), show 1000000 + i - 1000000 = i by omega]
    · unfold zext
      rw [if_pos rfl]
    · unfold zext
      rw [if_neg (by decide), if_pos rfl]
    · have hj : j < 6 := (List.getElem?_eq_some_iff.mp hv).1
      rw [zn18 j hj] at hv
      exact (Option.some.inj hv).symm
