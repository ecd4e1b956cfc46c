/-- all slips in, n of them -/
def slS (S : ST) (n : Int32) : ST := fun c i => if c = 0 ∧ i = 0 then n else if c = 1 then (if 1 ≤ i ∧ i ≤ n.toNatClampNeg then 1 else 0) else S c i
theorem mul8 {b t : Int32} (hb : 0 ≤ b.toInt ∧ b.toInt < 4) (ht : 0 ≤ t.toInt ∧ t.toInt < 8) : (b * (8 : Int32) + t).toNatClampNeg = 8 * b.toNatClampNeg + t.toNatClampNeg := by
  have h8 : (8 : Int32).toInt = 8 := rfl
  have a : (b * (8 : Int32)).toInt = b.toInt * 8 := by
    have := t_mul (x := b) (y := 8) (by rw [h8]; omega) (by rw [h8]; omega)
    rw [this, h8]
  have c : (b * (8 : Int32) + t).toInt = b.toInt * 8 + t.toInt := by
    rw [i_iadd (by omega) (by omega), a]
  have d : (b * (8 : Int32) + t).toNatClampNeg = (b * (8 : Int32) + t).toInt.toNat := rfl
  have e : b.toNatClampNeg = b.toInt.toNat := rfl
  have f : t.toNatClampNeg = t.toInt.toNat := rfl
  omega
section
variable {T : List Nat} {h h' : zH} {q : Nat} {S : ST}
theorem isB_4 (w : WF S) {b : Int32} (hb : isB S b) : 0 ≤ b.toInt ∧ b.toInt < 4 := ⟨hb.1, by
  have := (WF_bu w).2
  have := hb.2
  omega⟩
theorem isT_8 (w : WF S) {t : Int32} (ht : isT S t) : 0 ≤ t.toInt ∧ t.toInt < 8 := ⟨ht.1, by
  have := (WF_th w).2
  have := ht.2
  omega⟩
theorem cm_lk (m : CM T q h S h') (w : WF S) {b t : Int32} (hb : isB S b) (ht : isT S t) (x : Int32) : CM T q h (uS S 8 (8 * b.toNatClampNeg + t.toNatClampNeg) x) (F_X1_putLiking h' q b t x) := by
  have ca := (CM_CC m w).2.1
  have b1 := (isB_c hb).1
  have t1 := (isT_lt w ht).1
  have b4 := nB_4 w
  have t8 := nT_8 w
  have key := mul8 (isB_4 w hb) (isT_8 w ht)
  unfold F_X1_putLiking
  simp only [letf]
  rw [← ca] at hb ht
  rcases c_isB (h := h') (q := q) b with ⟨-, e⟩ | ⟨e, -⟩
  · exact absurd hb e
  · rcases c_isT (h := h') (q := q) t with ⟨-, f⟩ | ⟨f, -⟩
    · exact absurd ht f
    · rw [e, f, if_neg (by decide), if_neg (by decide), key]
      obtain ⟨rd, jj, c, k, rfl, s⟩ := m
      have b1 : b.toNatClampNeg < (rd 0 14).toNatClampNeg := b1
      have t1 : t.toNatClampNeg < (rd 0 8).toNatClampNeg := t1
      have t8 : (rd 0 8).toNatClampNeg ≤ 8 := t8
      have b4 : (rd 0 14).toNatClampNeg ≤ 4 := b4
      rw [cl16 c.2.1]
      refine ⟨_, jj, CR_put c (Or.inr (Or.inr (Or.inr (Or.inr (Or.inr (Or.inr (Or.inr ⟨rfl, by omega⟩))))))), ⟨k.1, fun i hi hn => ?_⟩, mkC_r8 ⟨by omega, by omega⟩, sO_t s (sO_put (by decide))⟩
      have hne : i ≠ 8 * b.toNatClampNeg + t.toNatClampNeg := fun y => hn (by
        show i % 8 < (rd 0 8).toNatClampNeg ∧ i / 8 < (rd 0 14).toNatClampNeg
        omega)
      show (if 7 = 7 ∧ i = 8 * b.toNatClampNeg + t.toNatClampNeg then x else rd 7 i) = 0
      rw [if_neg (fun y => hne y.2)]
      exact k.2 i hi hn
theorem rm_lk (m : RM T q h S h') (w : WF S) {b t : Int32} (hb : isB S b) (ht : isT S t) (x : Int32) : RM T q h (uS S 8 (8 * b.toNatClampNeg + t.toNatClampNeg) x) (hput h' (hr h' (hr h' q 25) b.toNatClampNeg) t.toNatClampNeg (.inl (.int x))) := by
  have b1 := (isB_c hb).1
  have t1 := (isT_lt w ht).1
  have b4 := nB_4 w
  have t8 := nT_8 w
  obtain ⟨rd, c, k, rfl, s⟩ := m
  have b1 : b.toNatClampNeg < (rd 0 23).toNatClampNeg := b1
  have t1 : t.toNatClampNeg < (rd 0 17).toNatClampNeg := t1
  have t8 : (rd 0 17).toNatClampNeg ≤ 8 := t8
  have b4 : (rd 0 23).toNatClampNeg ≤ 4 := b4
  rw [rl25 c.2.1, (c.2.1.2.2 _ (by omega)).1, Nat.add_assoc]
  refine ⟨_, RR_put c (Or.inr (Or.inr (Or.inr (Or.inr (Or.inr (Or.inr (Or.inr (Or.inr ⟨_, by omega, rfl, by omega⟩)))))))), fun i hi => ?_, mkR_r8 b1 t1 (by omega), sQ_t s (sQ_put (Or.inr (Or.inr (Or.inr (Or.inr (Or.inr (Or.inr (Or.inr (Or.inr ⟨_, by omega, rfl, by omega⟩)))))))))⟩
  have : upR rd (25 + b.toNatClampNeg) t.toNatClampNeg x 17 i = rd 17 i := if_neg (fun y => by omega)
  rw [this]
  exact k i hi
theorem cm_slips (m : CM T q h S h') {n : Int32} (hn : 1 ≤ n.toInt ∧ n.toInt ≤ 60) : CM T q h (slS S n) (F_X1_putSlips h' q n) := by
  have hc : n.toNatClampNeg = n.toInt.toNat := rfl
  have hb : n = nI n.toNatClampNeg := nI_back (by omega)
  obtain ⟨rd, jj, c, k, rfl, s⟩ := m
  unfold F_X1_putSlips F_X1_putAllIn
  simp only [letf]
  have c1 := CR_put (d := 0) (i := 0) (x := n) c (Or.inl ⟨rfl, by decide⟩)
  have e0 : hv (hput h' q 0 (.inl (.int n))) q 0 = n := CR_0 c1 0
  rw [e0]
  have key := j_all n.toNatClampNeg (by omega)
  rw [← hb] at key
  refine ⟨_, _, CR_putJ c1, ⟨fun i hi h0 => ?_, k.2⟩, ?_, sO_t (sO_t s (sO_put (d := 0) (by decide))) (sO_put (d := 0) (by decide))⟩
  · have h0 : i = 0 ∨ n.toNatClampNeg < i := h0
    rw [key i hi, if_neg (by omega)]
  · funext c' i'
    match c' with
    | 0 =>
      match i' with
      | 0 => rfl
      | 1 => rfl
      | 2 => rfl
      | 3 => rfl
      | 4 => rfl
      | 5 => rfl
      | 6 => rfl
      | 7 => rfl
      | 8 => rfl
      | _ + 9 => rfl
    | 1 =>
      show (if 1 ≤ i' ∧ i' ≤ n.toNatClampNeg then nI (nb (jN _) i') else 0) = (if 1 ≤ i' ∧ i' ≤ n.toNatClampNeg then 1 else 0)
      by_cases e : 1 ≤ i' ∧ i' ≤ n.toNatClampNeg
      · rw [if_pos e, if_pos e, key i' (by omega), if_pos e]
        rfl
      · rw [if_neg e, if_neg e]
    | 2 => rfl
    | 3 => rfl
    | 4 => rfl
    | 5 => rfl
    | 6 => rfl
    | 7 => rfl
    | 8 => rfl
    | _ + 9 => rfl
theorem cm_all (m : CM T q h S h') (w : WF S) : CM T q h (slS S (S 0 0)) (F_X1_putAllIn h' q) := by
  have hn := WF_sl w
  have hc : (S 0 0).toNatClampNeg = (S 0 0).toInt.toNat := rfl
  have hb : S 0 0 = nI (S 0 0).toNatClampNeg := nI_back (by omega)
  unfold F_X1_putAllIn
  simp only [letf]
  rw [cm_n0 m]
  obtain ⟨rd, jj, c, k, rfl, s⟩ := m
  have key := j_all (mkC rd jj 0 0).toNatClampNeg (by omega)
  rw [← hb] at key
  refine ⟨_, _, CR_putJ c, ⟨fun i hi h0 => ?_, k.2⟩, ?_, sO_t s (sO_put (d := 0) (by decide))⟩
  · have h0 : i = 0 ∨ (mkC rd jj 0 0).toNatClampNeg < i := h0
    rw [key i hi, if_neg (by omega)]
  · funext c' i'
    match c' with
    | 0 =>
      match i' with
      | 0 => rfl
      | 1 => rfl
      | 2 => rfl
      | 3 => rfl
      | 4 => rfl
      | 5 => rfl
      | 6 => rfl
      | 7 => rfl
      | 8 => rfl
      | _ + 9 => rfl
    | 1 =>
      show (if 1 ≤ i' ∧ i' ≤ (rd 0 0).toNatClampNeg then nI (nb (jN _) i') else 0) = (if 1 ≤ i' ∧ i' ≤ (rd 0 0).toNatClampNeg then 1 else 0)
      have hn : (rd 0 0).toNatClampNeg ≤ 60 := (by
        have : (rd 0 0).toNatClampNeg = (mkC rd jj 0 0).toInt.toNat := rfl
        omega)
      by_cases e : 1 ≤ i' ∧ i' ≤ (rd 0 0).toNatClampNeg
      · rw [if_pos e, if_pos e, key i' (by omega)]
        show nI (if 1 ≤ i' ∧ i' ≤ (rd 0 0).toNatClampNeg then 1 else 0) = 1
        rw [if_pos e]
        rfl
      · rw [if_neg e, if_neg e]
    | 2 => rfl
    | 3 => rfl
    | 4 => rfl
    | 5 => rfl
    | 6 => rfl
    | 7 => rfl
    | 8 => rfl
    | _ + 9 => rfl
/-- the reference puts them in one by one -/
def RI (T : List Nat) (q : Nat) (h : zH) (rd0 : Nat → Nat → Int32) (j : Nat) (h' : zH) : Prop := ∃ rd, RR T h' q rd ∧ rI rd ∧ (∀ i, i < j → rd 17 i = 0) ∧ (∀ d i, d ≠ 17 → rd d i = rd0 d i) ∧ sQ q h h'
theorem RI_lay {rd0 : Nat → Nat → Int32} {j : Nat} (m : RI T q h rd0 j h') : RLay T h' q := by
  obtain ⟨rd, c, -⟩ := m
  exact c.2.1
theorem RI_step {rd0 : Nat → Nat → Int32} {j : Nat} (m : RI T q h rd0 j h') (hj : j < 61) : RI T q h rd0 (j + 1) (hput h' (hr h' q 16) j (.inl (.int 0))) := by
  obtain ⟨rd, c, k, z, o, s⟩ := m
  rw [rl16 c.2.1]
  refine ⟨_, RR_put c (Or.inr (Or.inl ⟨rfl, hj⟩)), fun i hi => ?_, fun i hi => ?_, fun d i hd => ?_, sQ_t s (sQ_put (Or.inr (Or.inl ⟨rfl, hj⟩)))⟩
  · by_cases e : (17 : Nat) = 17 ∧ i = j
    · exact Or.inl (if_pos e)
    · have : upR rd 17 j 0 17 i = rd 17 i := if_neg e
      rw [this]
      exact k i hi
  · by_cases e : (17 : Nat) = 17 ∧ i = j
    · exact if_pos e
    · have : upR rd 17 j 0 17 i = rd 17 i := if_neg e
      rw [this]
      exact z i (by
        have : i ≠ j := fun y => e ⟨rfl, y⟩
        omega)
  · have : upR rd 17 j 0 d i = rd d i := if_neg (fun y => hd y.1)
    rw [this]
    exact o d i hd
theorem RI_end {rd0 : Nat → Nat → Int32} (m : RI T q h rd0 61 h') (h6 : (rd0 0 9).toNatClampNeg ≤ 60) : RM T q h (slS (mkR rd0) (rd0 0 9)) h' := by
  obtain ⟨rd, c, k, z, o, s⟩ := m
  refine ⟨rd, c, k, ?_, s⟩
  have o' : ∀ d i, d ≠ 17 → rd d i = rd0 d i := o
  funext c' i'
  match c' with
  | 0 =>
    match i' with
    | 0 => exact o' _ _ (by decide)
    | 1 => exact o' _ _ (by decide)
    | 2 => exact o' _ _ (by decide)
    | 3 => exact o' _ _ (by decide)
    | 4 => exact o' _ _ (by decide)
    | 5 => exact o' _ _ (by decide)
    | 6 => exact o' _ _ (by decide)
    | 7 => exact o' _ _ (by decide)
    | 8 => exact o' _ _ (by decide)
    | _ + 9 => rfl
  | 1 =>
    show (if 1 ≤ i' ∧ i' ≤ (rd 0 9).toNatClampNeg then 1 - rd 17 i' else 0) = (if 1 ≤ i' ∧ i' ≤ (rd0 0 9).toNatClampNeg then 1 else 0)
    rw [o' 0 9 (by decide)]
    by_cases e : 1 ≤ i' ∧ i' ≤ (rd0 0 9).toNatClampNeg
    · rw [if_pos e, if_pos e, z i' (by omega)]
      rfl
    · rw [if_neg e, if_neg e]
  | 2 =>
    show (if i' < (rd 0 17).toNatClampNeg then rd 18 i' else 0) = (if i' < (rd0 0 17).toNatClampNeg then rd0 18 i' else 0)
    rw [o' 0 17 (by decide), o' 18 i' (by decide)]
  | 3 =>
    show (if i' < (rd 0 17).toNatClampNeg then rd 19 i' else 0) = (if i' < (rd0 0 17).toNatClampNeg then rd0 19 i' else 0)
    rw [o' 0 17 (by decide), o' 19 i' (by decide)]
  | 4 =>
    show (if i' < (rd 0 17).toNatClampNeg then rd 20 i' else 0) = (if i' < (rd0 0 17).toNatClampNeg then rd0 20 i' else 0)
    rw [o' 0 17 (by decide), o' 20 i' (by decide)]
  | 5 =>
    show (if i' < (rd 0 17).toNatClampNeg then rd 21 i' else 0) = (if i' < (rd0 0 17).toNatClampNeg then rd0 21 i' else 0)
    rw [o' 0 17 (by decide), o' 21 i' (by decide)]
  | 6 =>
    show (if i' < (rd 0 17).toNatClampNeg then rd 22 i' else 0) = (if i' < (rd0 0 17).toNatClampNeg then rd0 22 i' else 0)
    rw [o' 0 17 (by decide), o' 22 i' (by decide)]
  | 7 =>
    show (if i' < (rd 0 23).toNatClampNeg then rd 23 i' else 0) = (if i' < (rd0 0 23).toNatClampNeg then rd0 23 i' else 0)
    rw [o' 0 23 (by decide), o' 23 i' (by decide)]
  | 8 =>
    show (if i' % 8 < (rd 0 17).toNatClampNeg ∧ i' / 8 < (rd 0 23).toNatClampNeg then rd (25 + i' / 8) (i' % 8) else 0) = (if i' % 8 < (rd0 0 17).toNatClampNeg ∧ i' / 8 < (rd0 0 23).toNatClampNeg then rd0 (25 + i' / 8) (i' % 8) else 0)
    rw [o' 0 17 (by decide), o' 0 23 (by decide), o' (25 + i' / 8) (i' % 8) (by omega)]
  | _ + 9 => rfl
theorem slS_o {S : ST} {n : Int32} {c i : Nat} (h1 : ¬ (c = 0 ∧ i = 0)) (h2 : c ≠ 1) : slS S n c i = S c i := (if_neg h1).trans (if_neg h2)
theorem mkR_z0 (rd : Nat → Nat → Int32) (k : Nat) : mkR rd 0 (k + 9) = 0 := rfl
theorem mkR_z (rd : Nat → Nat → Int32) (k i : Nat) : mkR rd (k + 9) i = 0 := rfl
theorem slS_congr {rd rd' : Nat → Nat → Int32} {n : Int32} (o : ∀ d i, d ≠ 17 → ¬ (d = 0 ∧ i = 9) → rd' d i = rd d i) : slS (mkR rd') n = slS (mkR rd) n := by
  have z : ∀ i, i ≠ 9 → rd' 0 i = rd 0 i := fun i hi => o 0 i (by decide) (fun y => hi y.2)
  have z' : ∀ d i, d ≠ 17 → d ≠ 0 → rd' d i = rd d i := fun d i h1 h2 => o d i h1 (fun y => h2 y.1)
  have key : ∀ c' i', ¬ (c' = 0 ∧ i' = 0) → c' ≠ 1 → mkR rd' c' i' = mkR rd c' i' := fun c' i' h1 h2 => by
    match c' with
    | 0 =>
      match i' with
      | 0 => exact absurd ⟨rfl, rfl⟩ h1
      | 1 => exact z _ (by decide)
      | 2 => exact z _ (by decide)
      | 3 => exact z _ (by decide)
      | 4 => exact z _ (by decide)
      | 5 => exact z _ (by decide)
      | 6 => exact z _ (by decide)
      | 7 => exact z _ (by decide)
      | 8 => exact z _ (by decide)
      | k + 9 => exact (mkR_z0 rd' k).trans (mkR_z0 rd k).symm
    | 1 => exact absurd rfl h2
    | 2 =>
      show (if i' < (rd' 0 17).toNatClampNeg then rd' 18 i' else 0) = (if i' < (rd 0 17).toNatClampNeg then rd 18 i' else 0)
      rw [z 17 (by decide), z' 18 i' (by decide) (by decide)]
    | 3 =>
      show (if i' < (rd' 0 17).toNatClampNeg then rd' 19 i' else 0) = (if i' < (rd 0 17).toNatClampNeg then rd 19 i' else 0)
      rw [z 17 (by decide), z' 19 i' (by decide) (by decide)]
    | 4 =>
      show (if i' < (rd' 0 17).toNatClampNeg then rd' 20 i' else 0) = (if i' < (rd 0 17).toNatClampNeg then rd 20 i' else 0)
      rw [z 17 (by decide), z' 20 i' (by decide) (by decide)]
    | 5 =>
      show (if i' < (rd' 0 17).toNatClampNeg then rd' 21 i' else 0) = (if i' < (rd 0 17).toNatClampNeg then rd 21 i' else 0)
      rw [z 17 (by decide), z' 21 i' (by decide) (by decide)]
    | 6 =>
      show (if i' < (rd' 0 17).toNatClampNeg then rd' 22 i' else 0) = (if i' < (rd 0 17).toNatClampNeg then rd 22 i' else 0)
      rw [z 17 (by decide), z' 22 i' (by decide) (by decide)]
    | 7 =>
      show (if i' < (rd' 0 23).toNatClampNeg then rd' 23 i' else 0) = (if i' < (rd 0 23).toNatClampNeg then rd 23 i' else 0)
      rw [z 23 (by decide), z' 23 i' (by decide) (by decide)]
    | 8 =>
      show (if i' % 8 < (rd' 0 17).toNatClampNeg ∧ i' / 8 < (rd' 0 23).toNatClampNeg then rd' (25 + i' / 8) (i' % 8) else 0) = (if i' % 8 < (rd 0 17).toNatClampNeg ∧ i' / 8 < (rd 0 23).toNatClampNeg then rd (25 + i' / 8) (i' % 8) else 0)
      rw [z 17 (by decide), z 23 (by decide), z' (25 + i' / 8) (i' % 8) (by omega) (by omega)]
    | k + 9 => exact (mkR_z rd' k i').trans (mkR_z rd k i').symm
  funext c' i'
  by_cases h1 : c' = 0 ∧ i' = 0
  · exact (if_pos h1).trans (if_pos h1).symm
  · by_cases h2 : c' = 1
    · exact ((if_neg h1).trans (if_pos h2)).trans ((if_neg h1).trans (if_pos h2)).symm
    · rw [slS_o h1 h2, slS_o h1 h2]
      exact key c' i' h1 h2
theorem slS_up {rd : Nat → Nat → Int32} {n : Int32} : slS (mkR (upR rd 0 9 n)) (upR rd 0 9 n 0 9) = slS (mkR rd) n := by
  have e : upR rd 0 9 n 0 9 = n := if_pos ⟨rfl, rfl⟩
  rw [e]
  exact slS_congr (fun d i _ h => if_neg h)
theorem rm_slips (m : RM T q h S h') {n : Int32} (hn : 1 ≤ n.toInt ∧ n.toInt ≤ 60) : RM T q h (slS S n) (F_X5_becomeSlips h' q n) := by
  have hc : n.toNatClampNeg = n.toInt.toNat := rfl
  obtain ⟨rd, c, k, rfl, s⟩ := m
  unfold F_X5_becomeSlips
  simp only [letf]
  have c1 := RR_put (d := 0) (i := 9) (x := n) c (Or.inl ⟨rfl, by decide⟩)
  have hS := slS_up (rd := rd) (n := n)
  rw [← hS]
  refine fx_forI (F := B_X5_becomeSlips_7 q n) (d := []) (fun j (s : Int32 × zH) => s.1 = nI j ∧ RI T q h (upR rd 0 9 n) j s.2) (fun r => RM T q h (slS (mkR (upR rd 0 9 n)) (upR rd 0 9 n 0 9)) r) 61 (fun s hs => ?_) (fun j s hj hs => ?_) ?_
  · obtain ⟨s1, s2⟩ := s
    obtain ⟨e, hs⟩ := hs
    have e : s1 = nI 61 := e
    subst e
    refine ⟨s2, ?_, RI_end hs (by show n.toNatClampNeg ≤ 60; omega)⟩
    unfold B_X5_becomeSlips_7
    have h61 : (60 : Int32) < nI 61 := by decide
    exact if_pos h61
  · obtain ⟨s1, s2⟩ := s
    obtain ⟨e, hs⟩ := hs
    have e : s1 = nI j := e
    have hs : RI T q h (upR rd 0 9 n) j s2 := hs
    subst e
    refine Or.inr ⟨(nI (j + 1), hput s2 (hr s2 q 16) j (.inl (.int 0))), ?_, rfl, RI_step hs hj⟩
    unfold B_X5_becomeSlips_7
    simp only [letf]
    have h60 : (60 : Int32).toInt = 60 := rfl
    rw [if_neg (by rw [i_lt, nI_t (by omega), h60]; omega), nI_c (by omega), nI_s]
  · exact ⟨rfl, _, c1, k, fun i hi => absurd hi (Nat.not_lt_zero _), fun d i _ => rfl, sQ_t s (sQ_put (d := 0) (Or.inl ⟨rfl, by decide⟩))⟩
end
