/-- noughts into a row -/
def zr (h : zH) (q : Nat) : Nat → zH
  | 0 => h
  | j + 1 => hput (zr h q j) q j (.inl (.long (0 : Int64)))
theorem zr_ne {h : zH} {q m i : Nat} (hm : m ≠ q) : ∀ j, hget (zr h q j) m i = hget h m i
  | 0 => rfl
  | j + 1 => (hget_put_ne (Or.inl hm)).trans (zr_ne hm j)
theorem zr_at {h : zH} {q : Nat} (g : ∀ i, i < 40 → ∃ w, hget h q i = some w) : ∀ j, j ≤ 40 → (∀ i, i < j → hJ (zr h q j) q i = 0) ∧ ∀ i, i < 40 → ∃ w, hget (zr h q j) q i = some w
  | 0, _ => ⟨fun i hi => absurd hi (Nat.not_lt_zero _), g⟩
  | j + 1, hj => by
    obtain ⟨a, b⟩ := zr_at g j (by omega)
    obtain ⟨w, hw⟩ := b j (by omega)
    refine ⟨fun i hi => ?_, fun i hi => ?_⟩
    · by_cases y : i = j
      · rw [y]
        exact hJ_put hw
      · exact (hJ_ne (Or.inr y)).trans (a i (by omega))
    · by_cases y : i = j
      · rw [y]
        exact ⟨_, hget_put hw⟩
      · obtain ⟨v, hv⟩ := b i hi
        exact ⟨v, (hget_put_ne (Or.inr y)).trans hv⟩
theorem lt40 : ∀ j : Nat, j ≤ 40 → (nI j < (40 : Int32) ↔ j < 40) := by decide
theorem putRow_eq {h : zH} {q q2 : Nat} {a n : Int32} (e : hr h q 2 = q2) (ne : q ≠ q2) : F_X0_putRow h q a n = zr (hput (hput h q 0 (.inl (.int a))) q 1 (.inl (.int n))) q2 40 := by
  unfold F_X0_putRow
  simp only [letf]
  have e2 : ∀ j, hr (zr (hput (hput h q 0 (.inl (.int a))) q 1 (.inl (.int n))) q2 j) q 2 = q2 := fun j => (hr_eq (zr_ne ne j)).trans ((hr_ne (Or.inr (by decide))).trans ((hr_ne (Or.inr (by decide))).trans e))
  refine fx_for (F := B_X0_putRow_12 q a n) (fun j => (nI j, zr (hput (hput h q 0 (.inl (.int a))) q 1 (.inl (.int n))) q2 j)) _ 40 ?_ (fun j hj => ?_)
  · unfold B_X0_putRow_12
    dsimp only
    rw [if_neg (by decide)]
  · unfold B_X0_putRow_12
    simp only [letf]
    rw [if_pos ((lt40 j (by omega)).mpr hj), e2, nI_c (by omega), nI_s]
    rfl
theorem row67_eq {h : zH} {a x y q : Int32} {s : Nat} (ea : a.toNatClampNeg = s) (e3 : hr h 49 3 = 53) (e : hr h 53 s = 54 + s) (hs : s < 8) : fx (B_X5_row_67 49 a x y) (0, []) ((0 : Int32), h) = ((1 : Int32), zr h (54 + s) 40) := by
  refine fx_for (F := B_X5_row_67 49 a x y) (fun j => (nI j, zr h (54 + s) j)) _ 40 ?_ (fun j hj => ?_)
  · unfold B_X5_row_67
    dsimp only
    rw [if_neg (by decide)]
  · unfold B_X5_row_67
    simp only [letf]
    rw [if_pos ((lt40 j (by omega)).mpr hj), ea, (hr_eq (zr_ne (by omega) j)).trans e3, (hr_eq (zr_ne (by omega) j)).trans e, nI_c (by omega), nI_s]
    rfl
section
variable {T T2 : List Nat} {h h2 h' h2' : zH} {N N' S : ST} {K : Option ST} {C Z C' Z' : Nat → Int32} {E E' : Nat → Nat → Int64} {n : Nat} {B R : Nat → Int32}
theorem m_row (H : HY T T2 h h2 N K C Z E n B R) (a b c : Int32) : PR h h2 (F_X4_row h 0 a b c) (F_X5_row h2 49 a b c) := by
  have wf := hw H
  have r0 := H.2.2.2.1.1.1
  unfold F_X4_row F_X5_row
  simp only [letf]
  rw [shelf_eq, shelf_in, pair_in (a := b) (lo := 0) (hi := 4) (by decide) (by decide), pair_in (a := c) (lo := 0) (hi := 40) (by decide) (by decide), h31 H, r0.1]
  by_cases w : F_X4_isWithin a 0 7 = 0
  · rw [if_pos w, if_pos w]
    exact pr0 H
  · rw [if_neg w, if_neg w]
    by_cases w2 : F_X4_isWithin b 0 4 = 0
    · rw [if_pos w2, if_pos w2]
      exact pr0 H
    · rw [if_neg w2, if_neg w2]
      by_cases w3 : F_X4_isWithin c 0 40 = 0
      · rw [if_pos w3, if_pos w3]
        exact pr0 H
      · rw [if_neg w3, if_neg w3]
        have hs := shelf_lt w
        have hb := win w2
        have hb : isRow b := hb
        have hc := win w3
        have hc : 0 ≤ c.toInt ∧ c.toInt ≤ 40 := hc
        generalize es : a.toNatClampNeg = s at hs ⊢
        obtain ⟨p1, p2, p3⟩ := hsh H hs
        obtain ⟨t1, t2, t3⟩ := tS _ hs
        have g0 := k_int H.1.1 (zT_at H.1.2 t1) (i := 0) (by decide) rfl
        have g1 := k_int H.1.1 (zT_at H.1.2 t1) (i := 1) (by decide) rfl
        have gl : ∀ i, i < 40 → hget h (34 + 2 * s) i = some (.inl (.long (hJ h (34 + 2 * s) i))) := fun i hi => k_lng H.1.1 (zT_at H.1.2 t2) (i := i) hi rfl
        have gr : ∀ i, i < 40 → hget h2 (54 + s) i = some (.inl (.long (hJ h2 (54 + s) i))) := fun i hi => k_lng H.2.2.1.1 (zT_at H.2.2.1.2.1 t3) (i := i) hi rfl
        have g50 := k_int H.2.2.1.1 (zT_at H.2.2.1.2.1 (q := 50) (τ := 24) rfl) (i := s) hs rfl
        have g51 := k_int H.2.2.1.1 (zT_at H.2.2.1.2.1 (q := 51) (τ := 25) rfl) (i := s) hs rfl
        have g52 := k_int H.2.2.1.1 (zT_at H.2.2.1.2.1 (q := 52) (τ := 26) rfl) (i := s) hs rfl
        rw [p1.1, putRow_eq p1.2 (by omega)]
        have k51 : hr (hput h2 50 s (.inl (.int 1))) 49 1 = 51 := (hr_ne (Or.inl (by decide))).trans r0.2.1
        rw [k51]
        have k52 : hr (hput (hput h2 50 s (.inl (.int 1))) 51 s (.inl (.int b))) 49 2 = 52 := (hr_ne (Or.inl (by decide))).trans ((hr_ne (Or.inl (by decide))).trans r0.2.2.1)
        rw [k52]
        have k3 : hr (hput (hput (hput h2 50 s (.inl (.int 1))) 51 s (.inl (.int b))) 52 s (.inl (.int c))) 49 3 = 53 := (hr_ne (Or.inl (by decide))).trans ((hr_ne (Or.inl (by decide))).trans ((hr_ne (Or.inl (by decide))).trans r0.2.2.2.1))
        have k4 : hr (hput (hput (hput h2 50 s (.inl (.int 1))) 51 s (.inl (.int b))) 52 s (.inl (.int c))) 53 s = 54 + s := (hr_ne (Or.inl (by decide))).trans ((hr_ne (Or.inl (by decide))).trans ((hr_ne (Or.inl (by decide))).trans (H.2.2.2.1.1.2 s hs)))
        rw [row67_eq (q := 0) es k3 k4 hs]
        have zc := (zr_at (h := hput (hput h (33 + 2 * s) 0 (.inl (.int b))) (33 + 2 * s) 1 (.inl (.int c))) (q := 34 + 2 * s) (fun i hi => ⟨_, (hget_put_ne (Or.inl (by omega))).trans ((hget_put_ne (Or.inl (by omega))).trans (gl i hi))⟩) 40 (Nat.le_refl _)).1
        have zd := (zr_at (h := hput (hput (hput h2 50 s (.inl (.int 1))) 51 s (.inl (.int b))) 52 s (.inl (.int c))) (q := 54 + s) (fun i hi => ⟨_, (hget_put_ne (Or.inl (by omega))).trans ((hget_put_ne (Or.inl (by omega))).trans ((hget_put_ne (Or.inl (by omega))).trans (gr i hi)))⟩) 40 (Nat.le_refl _)).1
        refine sh_one H hs (c := b) (z := c) (e := fun _ => 0) (fun m i q1 q2 => (zr_ne q2 40).trans ((hget_put_ne (Or.inl q1)).trans (hget_put_ne (Or.inl q1)))) ⟨⟨(hr_eq ((zr_ne (by omega) 40).trans ((hget_put_ne (Or.inl (by omega))).trans (hget_put_ne (Or.inl (by omega)))))).trans p1.1, (hr_eq ((zr_ne (by omega) 40).trans ((hget_put_ne (Or.inr (by decide))).trans (hget_put_ne (Or.inr (by decide)))))).trans p1.2⟩, ?_, fun _ => ⟨?_, fun i hi => ?_⟩⟩ (fun m i q1 q2 q3 => (zr_ne q2 40).trans ((hget_put_ne (by omega)).trans ((hget_put_ne (by omega)).trans (hget_put_ne (by omega))))) (Or.inr (Or.inl ⟨?_, ?_, ?_, ?_, ?_, fun i hi => ?_⟩)) (fun t ht t8 => ?_) 1
        · rw [hv_eq (zr_ne (by omega) 40), hv_ne (Or.inr (by decide)), hv_put g0, upB_eq]
        · rw [hv_eq (zr_ne (by omega) 40), upB_eq]
          exact hv_put ((hget_put_ne (Or.inr (by decide))).trans g1)
        · rw [upE_eq]
          exact zc i hi
        · rw [hv_eq (zr_ne (by omega) 40), hv_ne (Or.inl (by decide)), hv_ne (Or.inl (by decide)), hv_put g50]
        · rw [upB_eq]
          exact hb
        · rw [upB_eq]
          exact hc
        · rw [hv_eq (zr_ne (by omega) 40), hv_ne (Or.inl (by decide)), upB_eq]
          exact hv_put ((hget_put_ne (Or.inl (by decide))).trans g51)
        · rw [hv_eq (zr_ne (by omega) 40), upB_eq]
          exact hv_put ((hget_put_ne (Or.inl (by decide))).trans ((hget_put_ne (Or.inl (by decide))).trans g52))
        · rw [upE_eq]
          exact zd i hi
        · have := hb.2
          rw [ht, nI_t (by omega)] at this
          omega
end
