def cS1 (h : zH) (C Z : Nat → Int32) (E : Nat → Nat → Int64) (s : Nat) : Prop := (hr h 31 s = 33 + 2 * s ∧ hr h (33 + 2 * s) 2 = 34 + 2 * s) ∧ hv h (33 + 2 * s) 0 = C s ∧ (isRow (C s) → hv h (33 + 2 * s) 1 = Z s ∧ ∀ i, i < 40 → hJ h (34 + 2 * s) i = E s i)
def upE (E : Nat → Nat → Int64) (s : Nat) (e : Nat → Int64) (s' i : Nat) : Int64 := if s' = s then e i else E s' i
theorem upB_eq {B : Nat → Int32} {s : Nat} {v : Int32} : upB B s v s = v := if_pos rfl
theorem upB_ne {B : Nat → Int32} {s s' : Nat} {v : Int32} (h : s' ≠ s) : upB B s v s' = B s' := if_neg h
theorem upE_eq {E : Nat → Nat → Int64} {s i : Nat} {e : Nat → Int64} : upE E s e s i = e i := if_pos rfl
theorem upE_ne {E : Nat → Nat → Int64} {s s' i : Nat} {e : Nat → Int64} (h : s' ≠ s) : upE E s e s' i = E s' i := if_neg h
theorem shelf_eq (a : Int32) : F_X4_isShelf a = F_X4_isWithin a 0 7 := letf_id _
theorem shelf_in (a : Int32) : F_X5_in (Int32.toInt64 a) (0 : Int64) (7 : Int64) = F_X4_isWithin a 0 7 := pair_in (by decide) (by decide)
theorem shelf_lt {a : Int32} (w : ¬ F_X4_isWithin a 0 7 = 0) : a.toNatClampNeg < 8 := by
  have v := win w
  have i1 : (0 : Int32).toInt = 0 := rfl
  have i2 : (7 : Int32).toInt = 7 := rfl
  rw [i1, i2] at v
  clear i1 i2
  have := clamp_i v.1
  omega
section
variable {T T2 : List Nat} {h h2 h' h2' : zH} {N N' S : ST} {K : Option ST} {C Z C' Z' : Nat → Int32} {E E' : Nat → Nat → Int64} {n : Nat} {B R : Nat → Int32}
theorem cS1_eq {s : Nat} (e1 : hget h' 31 s = hget h 31 s) (e : ∀ i, hget h' (33 + 2 * s) i = hget h (33 + 2 * s) i) (e2 : ∀ i, hget h' (34 + 2 * s) i = hget h (34 + 2 * s) i) (ec : C' s = C s) (ez : Z' s = Z s) (ee : ∀ i, E' s i = E s i) (p : cS1 h C Z E s) : cS1 h' C' Z' E' s := by
  obtain ⟨p1, p2, p3⟩ := p
  refine ⟨⟨(hr_eq e1).trans p1.1, (hr_eq (e 2)).trans p1.2⟩, (hv_eq (e 0)).trans (p2.trans ec.symm), fun r => ?_⟩
  rw [ec] at r
  refine ⟨(hv_eq (e 1)).trans ((p3 r).1.trans ez.symm), fun i hi => (hJ_eq (e2 i)).trans (((p3 r).2 i hi).trans (ee i).symm)⟩
theorem rS1_to {s : Nat} (f0 : hv h' 50 s = hv h 50 s) (f1 : hv h' 51 s = hv h 51 s) (f2 : hv h' 52 s = hv h 52 s) (f3 : hv h' 63 s = hv h 63 s) (f4 : ∀ i, hJ h' (54 + s) i = hJ h (54 + s) i) (ec : C' s = C s) (ez : Z' s = Z s) (ee : ∀ i, E' s i = E s i) (p : rS1 h C Z E s) : rS1 h' C' Z' E' s := by
  unfold rS1 at p ⊢
  rw [f0, f1, f2, f3, ec, ez]
  rcases p with y | ⟨y1, y2, y3, y4, y5, y6⟩ | y
  · exact Or.inl y
  · exact Or.inr (Or.inl ⟨y1, y2, y3, y4, y5, fun i hi => (f4 i).trans ((y6 i hi).trans (ee i).symm)⟩)
  · exact Or.inr (Or.inr y)
/-- one shelf changed on both sides -/
theorem sh_one (H : HY T T2 h h2 N K C Z E n B R) {s : Nat} (hs : s < 8) {c z : Int32} {e : Nat → Int64} (fc : ∀ m i, m ≠ 33 + 2 * s → m ≠ 34 + 2 * s → hget h' m i = hget h m i) (pc : cS1 h' (upB C s c) (upB Z s z) (upE E s e) s) (fr : ∀ m i, m ≠ 62 → m ≠ 54 + s → ((m = 50 ∨ m = 51 ∨ m = 52 ∨ m = 63) → i ≠ s) → hget h2' m i = hget h2 m i) (pr : rS1 h2' (upB C s c) (upB Z s z) (upE E s e) s) (ok : ∀ t : Nat, c = nI (10 + t) → t < 8 → t < nT N) (a : Int32) : PR h h2 (a, h') (a, h2') := by
  obtain ⟨q1, q2⟩ := cx_sh (h' := h') (C' := upB C s c) (Z' := upB Z s z) (E' := upE E s e) H.2.1 (fun m i hm => fc m i (by omega) (by omega)) (fun s' hs' => by
    by_cases y : s' = s
    · rw [y]
      exact pc
    · exact cS1_eq (fc _ _ (by omega) (by omega)) (fun i => fc _ i (by omega) (by omega)) (fun i => fc _ i (by omega) (by omega)) (upB_ne y) (upB_ne y) (fun i => upE_ne y) (H.2.1.2.2.2.2.2.2.2 s' hs'))
  obtain ⟨q3, q4⟩ := rx_sh (h' := h2') (C' := upB C s c) (Z' := upB Z s z) (E' := upE E s e) H.2.2.2.1 (fun m i hm => fr m i (by omega) (by omega) (by omega)) (fun s' hs' => by
    by_cases y : s' = s
    · rw [y]
      exact pr
    · exact rS1_to (hv_eq (fr _ _ (by omega) (by omega) (fun _ => y))) (hv_eq (fr _ _ (by omega) (by omega) (fun _ => y))) (hv_eq (fr _ _ (by omega) (by omega) (fun _ => y))) (hv_eq (fr _ _ (by omega) (by omega) (fun _ => y))) (fun i => hJ_eq (fr _ _ (by omega) (by omega) (by omega))) (upB_ne y) (upB_ne y) (fun i => upE_ne y) (H.2.2.2.1.2.2.2.2.2.2 s' hs'))
  refine ⟨a, N, K, _, _, _, n, B, R, ⟨rfl, q1, q2⟩, ⟨rfl, q3, q4⟩, fun s' hs' t ht t8 => ?_, H.2.2.2.2.2⟩
  by_cases y : s' = s
  · rw [y, upB_eq] at ht
    exact ok t ht t8
  · rw [upB_ne y] at ht
    exact H.2.2.2.2.1 s' hs' t ht t8
theorem h31 (H : HY T T2 h h2 N K C Z E n B R) : hr h 0 5 = 31 := H.2.1.1.2.2.2.2.2.1
theorem hsh (H : HY T T2 h h2 N K C Z E n B R) {s : Nat} (hs : s < 8) : cS1 h C Z E s := H.2.1.2.2.2.2.2.2.2 s hs
theorem rsh (H : HY T T2 h h2 N K C Z E n B R) {s : Nat} (hs : s < 8) : rS1 h2 C Z E s := H.2.2.2.1.2.2.2.2.2.2 s hs
theorem tS (s : Nat) (hs : s < 8) : zT0[33 + 2 * s]? = some 0 ∧ zT0[34 + 2 * s]? = some 10 ∧ zT0[54 + s]? = some 28 := by
  have key : ∀ s : Nat, s < 8 → zT0[33 + 2 * s]? = some 0 ∧ zT0[34 + 2 * s]? = some 10 ∧ zT0[54 + s]? = some 28 := by decide
  exact key s hs
theorem m_holds (H : HY T T2 h h2 N K C Z E n B R) (a : Int32) : F_X4_holds h 0 a = F_X5_holds h2 49 a := by
  have r0 := H.2.2.2.1.1.1
  unfold F_X4_holds F_X5_holds
  simp only [letf]
  rw [shelf_eq, shelf_in, h31 H, r0.1, r0.2.1, r0.2.2.2.2.2.1]
  refine ifc (fun _ => rfl) (fun w => ?_)
  have hs := shelf_lt w
  obtain ⟨p1, p2, -⟩ := hsh H hs
  rw [p1.1, p2]
  rcases rsh H hs with ⟨a0, b⟩ | ⟨a0, b, c, d, -⟩ | ⟨a0, t, b, c, d⟩
  · rw [a0, if_pos rfl, b]
  · rw [a0, if_neg (by decide), if_pos rfl, d]
  · rw [a0, if_neg (by decide), if_neg (by decide), c, d, show (10 : Int32) = nI 10 from rfl, nI_add]
theorem m_show (H : HY T T2 h h2 N K C Z E n B R) (a b : Int32) : PR h h2 (F_X4_show h 0 a b) (F_X5_show h2 49 a b) := by
  have wf := hw H
  have n8 := nT_8 wf
  have r0 := H.2.2.2.1.1.1
  unfold F_X4_show F_X5_show
  simp only [letf]
  rw [shelf_eq, shelf_in, hc0 H, h31 H, r0.1, hcT H, hrT H]
  by_cases w : F_X4_isWithin a 0 7 = 0
  · rw [if_pos w, if_pos w]
    exact pr0 H
  · rw [if_neg w, if_neg w]
    have hs := shelf_lt w
    obtain ⟨p1, p2, p3⟩ := hsh H hs
    obtain ⟨t1, t2, t3⟩ := tS _ hs
    have g := k_int H.1.1 (zT_at H.1.2 t1) (i := 0) (by decide) rfl
    have g50 := k_int H.2.2.1.1 (zT_at H.2.2.1.2.1 (q := 50) (τ := 24) rfl) (i := a.toNatClampNeg) hs rfl
    have g63 := k_int H.2.2.1.1 (zT_at H.2.2.1.2.1 (q := 63) (τ := 29) rfl) (i := a.toNatClampNeg) hs rfl
    have h63 : ∀ v, hr (hput h2 50 a.toNatClampNeg v) 49 5 = 63 := fun v => (hr_ne (Or.inl (by decide))).trans r0.2.2.2.2.2.1
    have g63' : ∀ v, hget (hput h2 50 a.toNatClampNeg v) 63 a.toNatClampNeg = some (.inl (.int (hv h2 63 a.toNatClampNeg))) := fun v => (hget_put_ne (Or.inl (by decide))).trans g63
    have fc : ∀ v m i, m ≠ 33 + 2 * a.toNatClampNeg → m ≠ 34 + 2 * a.toNatClampNeg → hget (hput h (33 + 2 * a.toNatClampNeg) 0 v) m i = hget h m i := fun v m i q1 q2 => hget_put_ne (Or.inl q1)
    have fr : ∀ v v' m i, m ≠ 62 → m ≠ 54 + a.toNatClampNeg → ((m = 50 ∨ m = 51 ∨ m = 52 ∨ m = 63) → i ≠ a.toNatClampNeg) → hget (hput (hput h2 50 a.toNatClampNeg v) 63 a.toNatClampNeg v') m i = hget h2 m i := fun v v' m i q1 q2 q3 => by
      rw [hget_put_ne (by omega), hget_put_ne (by omega)]
    rw [p1.1, h63, h63]
    by_cases y : b = -1
    · rw [if_pos y, if_pos y, if_pos y, if_pos y]
      refine sh_one H hs (c := -1) (z := 0) (e := fun _ => 0) (fc _) ⟨⟨(hr_ne (Or.inl (by omega))).trans p1.1, (hr_ne (Or.inr (by decide))).trans p1.2⟩, ?_, fun r => ?_⟩ (fr _ _) (Or.inl ⟨?_, upB_eq⟩) (fun t ht t8 => absurd ht.symm (n10 t t8)) 1
      · rw [hv_put g, upB_eq]
      · rw [upB_eq] at r
        exact absurd rfl (row_m1 r)
      · rw [hv_ne (Or.inl (by decide)), hv_put g50]
    · rw [if_neg y, if_neg y, if_neg y, if_neg y]
      by_cases t : isT N b
      · rw [if_pos t, if_neg t10, if_neg t10]
        have tl := isT_lt wf t
        have e10 : (10 : Int32) = nI 10 := rfl
        have eb : (10 : Int32) + b = nI (10 + b.toNatClampNeg) := by
          rw [← nI_add, ← e10, ← tl.2]
        rw [eb]
        refine sh_one H hs (c := nI (10 + b.toNatClampNeg)) (z := 0) (e := fun _ => 0) (fc _) ⟨⟨(hr_ne (Or.inl (by omega))).trans p1.1, (hr_ne (Or.inr (by decide))).trans p1.2⟩, ?_, fun r => ?_⟩ (fr _ _) (Or.inr (Or.inr ⟨?_, b.toNatClampNeg, by omega, ?_, upB_eq⟩)) (fun t ht t8 => ?_) 1
        · rw [hv_put g, upB_eq]
        · rw [upB_eq] at r
          have r2 := r.2
          rw [nI_t (by omega)] at r2
          omega
        · rw [hv_ne (Or.inl (by decide)), hv_put g50]
        · rw [hv_put (g63' _)]
          exact tl.2
        · have := i_eq.mp ht
          rw [nI_t (by omega), nI_t (by omega)] at this
          omega
      · rw [if_neg t, if_pos rfl, if_pos rfl]
        exact pr0 H
end
