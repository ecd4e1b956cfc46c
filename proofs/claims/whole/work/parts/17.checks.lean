def zisN : Cond → Bool
  | .methodLinkNest .. => true
  | _ => false
def zTG : List Cond := lw_tbl.filter goodWord
def zTN : List Cond := lw_tbl.filter zisN
theorem zGood_TG : zGood zTG := fun w hw => good_of_word (List.mem_filter.mp hw).2
theorem zTNok_TN : zTNok zTN := by
  intro w hw
  have h := (List.mem_filter.mp hw).2
  cases w <;> first | exact ⟨_, _, _, _, rfl⟩ | exact absurd h Bool.false_ne_true
def zst : zSt := [("EndsInFive$Tape", 38, "slips", 0), ("EndsInFive$Tape", 47, "rule", 1), ("EndsInFive$Tape", 52, "price", 2), ("EndsInFive$Tape", 94, "five", 7), ("EndsInFive$Tape", 57, "thing", 3), ("EndsInFive$Tape", 62, "buyer", 4), ("EndsInFive$Tape", 67, "likes", 5), ("EndsInFive$Tape", 72, "out", 6), ("EndsInFiveModel", 224, "slips", 0), ("EndsInFiveModel", 225, "rule", 1), ("EndsInFiveModel", 226, "price", 2), ("EndsInFiveModel", 219, "five", 7), ("EndsInFiveModel", 230, "thing", 3), ("EndsInFiveModel", 235, "buyer", 4), ("EndsInFiveModel", 237, "likes", 5), ("EndsInFiveModel", 238, "out", 6)]
def zsiteL (E : zE) : List (Nat × zI) := (zEd E).flatMap (fun q => q.2)
def zallW (E : zE) : List Cond := (zsiteL E).flatMap (fun r => zwords zprog E.1.cls r.2.1 r.2.2.1 r.2.2.2.1 r.2.2.2.2.1)
def zallN (E : zE) : List Cond := (zsiteL E).flatMap (fun r => zwordsN zprog E.1.cls r.2.1 r.2.2.2.1 r.2.2.2.2.1)
def zchk (E : zE) : Bool := (zsiteL E).all (fun r => zdec E.2.1 r.1 r.2.1 && zside zprog E.1 zst r.2.1 r.2.2.1 r.2.2.2.1 r.2.2.2.2.1 r.2.2.2.2.2.1)
theorem zft_mem {cd : zCd} {pc : Nat} {i : zI} (h : zft cd pc = some i) : (pc, i) ∈ cd.flatMap (fun q => q.2) := by
  unfold zft at h
  split at h
  · next q hq =>
    split at h
    · next r hr =>
      cases h
      have h1 := List.mem_of_find?_eq_some hr
      have h2 := List.find?_some hr
      have h3 : r.1 = pc := Nat.eq_of_beq_eq_true h2
      refine List.mem_flatMap.mpr ⟨q, List.mem_of_find?_eq_some hq, ?_⟩
      rw [← h3]
      exact h1
    · cases h
  · cases h
theorem zplaces {ws : List Cond} (ps : List Nat) (h : ws = ps.filterMap (fun i => lw_tbl[i]?)) : ∀ w ∈ ws, w ∈ lw_tbl := by
  intro w hw
  rw [h] at hw
  obtain ⟨i, -, hi⟩ := List.mem_filterMap.mp hw
  exact List.mem_of_getElem? hi
theorem zOkC_of {E : zE} (h1 : zchk E = true) (ps : List Nat) (h2 : zallW E = ps.filterMap (fun i => lw_tbl[i]?)) (h3 : (zallW E).all goodWord = true) (qs : List Nat) (h4 : zallN E = qs.filterMap (fun i => lw_tbl[i]?)) (h5 : (zallN E).all zisN = true) : zOkC zprog zst zTG zTN E := by
  intro pc i hi
  have hm := zft_mem hi
  have h6 := List.all_eq_true.mp h1 _ hm
  obtain ⟨a1, a2⟩ := z_and h6
  refine ⟨a1, a2, fun w hw => ?_, fun w hw => ?_⟩
  · have hw2 : w ∈ zallW E := List.mem_flatMap.mpr ⟨_, hm, hw⟩
    exact List.mem_filter.mpr ⟨zplaces ps h2 w hw2, List.all_eq_true.mp h3 w hw2⟩
  · have hw2 : w ∈ zallN E := List.mem_flatMap.mpr ⟨_, hm, hw⟩
    exact List.mem_filter.mpr ⟨zplaces qs h4 w hw2, List.all_eq_true.mp h5 w hw2⟩
def zckC (E : zE) (rows : List (Nat × zI)) : Prop := ∀ r ∈ rows, zdec E.2.1 r.1 r.2.1 = true ∧ zside zprog E.1 zst r.2.1 r.2.2.1 r.2.2.2.1 r.2.2.2.2.1 r.2.2.2.2.2.1 = true ∧ (∀ w ∈ zwords zprog E.1.cls r.2.1 r.2.2.1 r.2.2.2.1 r.2.2.2.2.1, w ∈ zTG) ∧ (∀ w ∈ zwordsN zprog E.1.cls r.2.1 r.2.2.2.1 r.2.2.2.2.1, w ∈ zTN)
theorem zckC_of {E : zE} {rows : List (Nat × zI)} (h1 : rows.all (fun r => zdec E.2.1 r.1 r.2.1 && zside zprog E.1 zst r.2.1 r.2.2.1 r.2.2.2.1 r.2.2.2.2.1 r.2.2.2.2.2.1) = true) (ps : List Nat) (h2 : rows.flatMap (fun r => zwords zprog E.1.cls r.2.1 r.2.2.1 r.2.2.2.1 r.2.2.2.2.1) = ps.filterMap (fun i => lw_tbl[i]?)) (h3 : (rows.flatMap (fun r => zwords zprog E.1.cls r.2.1 r.2.2.1 r.2.2.2.1 r.2.2.2.2.1)).all goodWord = true) (h4 : rows.flatMap (fun r => zwordsN zprog E.1.cls r.2.1 r.2.2.2.1 r.2.2.2.2.1) = []) : zckC E rows := by
  intro r hm
  have h6 := List.all_eq_true.mp h1 _ hm
  obtain ⟨a1, a2⟩ := z_and h6
  refine ⟨a1, a2, fun w hw => ?_, fun w hw => ?_⟩
  · have hw2 : w ∈ rows.flatMap (fun r => zwords zprog E.1.cls r.2.1 r.2.2.1 r.2.2.2.1 r.2.2.2.2.1) := List.mem_flatMap.mpr ⟨_, hm, hw⟩
    exact List.mem_filter.mpr ⟨zplaces ps h2 w hw2, List.all_eq_true.mp h3 w hw2⟩
  · have hw2 : w ∈ rows.flatMap (fun r => zwordsN zprog E.1.cls r.2.1 r.2.2.2.1 r.2.2.2.2.1) := List.mem_flatMap.mpr ⟨_, hm, hw⟩
    rw [h4] at hw2
    cases hw2
theorem zOkC_chunks {E : zE} (h : ∀ q ∈ zEd E, zckC E q.2) : zOkC zprog zst zTG zTN E := by
  intro pc i hi
  have hm := zft_mem hi
  obtain ⟨q, hq, hm⟩ := List.mem_flatMap.mp hm
  exact h q hq _ hm
theorem zmw_of {E : zE} (i : Nat) (h1 : lw_tbl[i]? = some (.code E.1 E.2.1 E.2.2.1 E.2.2.2.1)) (ps : List Nat) (h2 : (zmwords E).tail = ps.filterMap (fun i => lw_tbl[i]?)) (h3 : (zmwords E).tail.all goodWord = true) : ∀ w ∈ zmwords E, w ∈ zTG := by
  have e : zmwords E = .code E.1 E.2.1 E.2.2.1 E.2.2.2.1 :: (zmwords E).tail := by
    unfold zmwords
    split
    · rfl
    · split <;> rfl
  intro w hw
  rw [e] at hw
  rcases List.mem_cons.mp hw with rfl | hw
  · exact List.mem_filter.mpr ⟨List.mem_of_getElem? h1, rfl⟩
  · exact List.mem_filter.mpr ⟨zplaces ps h2 w hw, List.all_eq_true.mp h3 w hw⟩
