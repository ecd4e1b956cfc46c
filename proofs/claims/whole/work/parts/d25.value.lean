/-- what a state is worth to a buyer: r goes ahead at most, gone behind, left slips in, m the things that stand -/
def canN (S : ST) (gone : Int32) (left m : Nat) : Nat := m &&& rdN S gone (nI left)
def vsum (S : ST) (b : Nat) (f : Nat → Int) (gone : Int32) (left m : Nat) : Int := ((left - pcount 8 m : Nat) : Int) * f m + sumZ (fun t => if nb (canN S gone left m) t = 0 then 0 else 1000 * lkN S b (wonN S t m) + f (sDiff m (wonN S t m))) (nT S)
def vmany (S : ST) (gone : Int32) (left m : Nat) : Nat := (left - pcount 8 m) + pcount 8 (canN S gone left m)
def vw (S : ST) (b : Nat) (pr : Int) (f : Nat → Int) (gone : Int32) (left m : Nat) : Int :=
  if vmany S gone left m = 0 then 0 else if 0 < vsum S b f gone left m / (vmany S gone left m : Int) - 1000 * pr then vsum S b f gone left m / (vmany S gone left m : Int) - 1000 * pr else 0
def VV (S : ST) (b : Nat) (pr : Int) : Nat → Int32 → Nat → Nat → Int
  | 0, _, _, _ => 0
  | r + 1, gone, left, m => vw S b pr (fun k => VV S b pr r (gone + 1) (left - 1) k) gone left m
theorem sumN_mono {f g : Nat → Nat} : ∀ {m : Nat}, (∀ i, i < m → f i ≤ g i) → sumN f m ≤ sumN g m
  | 0, _ => Nat.le_refl _
  | m + 1, h => by
    show sumN f m + f m ≤ sumN g m + g m
    have := sumN_mono (m := m) (fun i hi => h i (by omega))
    have := h m (by omega)
    omega
theorem sumN_lt {f g : Nat → Nat} {j : Nat} : ∀ {m : Nat}, (∀ i, i < m → f i ≤ g i) → j < m → f j < g j → sumN f m < sumN g m
  | 0, _, hj, _ => absurd hj (Nat.not_lt_zero _)
  | m + 1, h, hj, hl => by
    show sumN f m + f m < sumN g m + g m
    have h1 := h m (by omega)
    by_cases e : j = m
    · subst e
      have := sumN_mono (m := j) (fun i hi => h i (by omega))
      omega
    · have := sumN_lt (m := m) (fun i hi => h i (by omega)) (by omega) hl
      omega
theorem pc_and (m k : Nat) : pcount 8 (m &&& k) ≤ pcount 8 m := by
  rw [pc8_sum, pc8_sum]
  refine sumN_mono (fun i _ => ?_)
  rw [nb_and]
  by_cases e : nb m i = 1 ∧ nb k i = 1
  · rw [if_pos e]
    omega
  · rw [if_neg e]
    omega
theorem pc_diff {m k t : Nat} (ht : t < 8) (h1 : nb m t = 1) (h2 : nb k t = 1) : pcount 8 (sDiff m k) < pcount 8 m := by
  rw [pc8_sum, pc8_sum]
  refine sumN_lt (j := t) (fun i hi => ?_) ht ?_
  · rw [nb_diff m k i hi]
    by_cases e : nb m i = 1 ∧ nb k i = 0
    · rw [if_pos e]
      omega
    · rw [if_neg e]
      omega
  · rw [nb_diff m k t ht, if_neg (fun y => by omega)]
    omega
theorem won_self {S : ST} {t m : Nat} : nb (wonN S t m) t = 1 := by
  unfold wonN
  by_cases e : kd S t = 3 ∧ brN S m ≠ -1
  · rw [if_pos e, nb_orr, if_pos (Or.inl (by rw [nb_pow, if_pos rfl]))]
  · rw [if_neg e, nb_pow, if_pos rfl]
theorem can_1 {S : ST} {gone : Int32} {left m t : Nat} (h : nb (canN S gone left m) t ≠ 0) : nb m t = 1 := by
  unfold canN at h
  rw [nb_and] at h
  by_cases e : nb m t = 1 ∧ nb (rdN S gone (nI left)) t = 1
  · exact e.1
  · rw [if_neg e] at h
    exact absurd rfl h
theorem can_lt {S : ST} {gone : Int32} {left m : Nat} (hm : m < 256) : canN S gone left m < 256 := Nat.lt_of_le_of_lt Nat.and_le_left hm
theorem lkN_b {S : ST} (w : WF S) (b m : Nat) : 0 ≤ lkN S b m ∧ lkN S b m ≤ 7992 := by
  have n8 := nT_8 w
  have := sumZ_le (f := fun t => if nb m t = 0 then 0 else lkS S b t) (a := 0) (b := 999) (m := nT S) (fun i _ => by
    by_cases e : nb m i = 0
    · show 0 ≤ (if nb m i = 0 then 0 else lkS S b i) ∧ (if nb m i = 0 then 0 else lkS S b i) ≤ 999
      rw [if_pos e]
      omega
    · show 0 ≤ (if nb m i = 0 then 0 else lkS S b i) ∧ (if nb m i = 0 then 0 else lkS S b i) ≤ 999
      rw [if_neg e]
      exact lkS_b w b i)
  unfold lkN
  omega
theorem sumZ_pc {c : Nat} {f : Nat → Int} {C : Int} (hC : 0 ≤ C) : ∀ n : Nat, (∀ t, t < n → nb c t ≠ 0 → 0 ≤ f t ∧ f t ≤ C) → 0 ≤ sumZ (fun t => if nb c t = 0 then 0 else f t) n ∧ sumZ (fun t => if nb c t = 0 then 0 else f t) n ≤ C * (sumN (nb c) n : Int)
  | 0, _ => by
    show (0 : Int) ≤ 0 ∧ (0 : Int) ≤ C * ((0 : Nat) : Int)
    rw [Int.natCast_zero, Int.mul_zero]
    exact ⟨Int.le_refl _, Int.le_refl _⟩
  | n + 1, h => by
    have ih := sumZ_pc (c := c) (f := f) hC n (fun t ht => h t (by omega))
    show 0 ≤ sumZ (fun t => if nb c t = 0 then 0 else f t) n + (if nb c n = 0 then 0 else f n) ∧ sumZ (fun t => if nb c t = 0 then 0 else f t) n + (if nb c n = 0 then 0 else f n) ≤ C * ((sumN (nb c) n + nb c n : Nat) : Int)
    rw [Int.natCast_add, Int.mul_add]
    have hb := nb_lt c n
    by_cases e : nb c n = 0
    · rw [if_pos e, e, Int.natCast_zero, Int.mul_zero]
      omega
    · have e1 : nb c n = 1 := by omega
      have := h n (by omega) e
      rw [if_neg e, e1, Int.natCast_one, Int.mul_one]
      omega
theorem sumN_sub {f : Nat → Nat} : ∀ {n m : Nat}, n ≤ m → sumN f n ≤ sumN f m
  | n, 0, h => by
    obtain rfl : n = 0 := by omega
    exact Nat.le_refl _
  | n, m + 1, h => by
    by_cases e : n = m + 1
    · rw [e]
      exact Nat.le_refl _
    · have := sumN_sub (f := f) (n := n) (m := m) (by omega)
      show sumN f n ≤ sumN f m + f m
      omega
/-- the sum is no more than so much for each that can be drawn -/
theorem vsum_b {S : ST} (w : WF S) (b : Nat) {f : Nat → Int} {B : Int} (hB : 0 ≤ B) {gone : Int32} {left m : Nat} (h0 : 0 < left - pcount 8 m → 0 ≤ f m ∧ f m ≤ B) (h1 : ∀ t, t < nT S → nb (canN S gone left m) t ≠ 0 → 0 ≤ f (sDiff m (wonN S t m)) ∧ f (sDiff m (wonN S t m)) ≤ B) : 0 ≤ vsum S b f gone left m ∧ vsum S b f gone left m ≤ (B + 7992000) * (vmany S gone left m : Int) := by
  have n8 := nT_8 w
  have hs := sumZ_pc (c := canN S gone left m) (f := fun t => 1000 * lkN S b (wonN S t m) + f (sDiff m (wonN S t m))) (C := B + 7992000) (by omega) (nT S) (fun t ht hc => by
    have a1 := lkN_b w b (wonN S t m)
    have a2 := h1 t ht hc
    show 0 ≤ 1000 * lkN S b (wonN S t m) + f (sDiff m (wonN S t m)) ∧ 1000 * lkN S b (wonN S t m) + f (sDiff m (wonN S t m)) ≤ B + 7992000
    omega)
  have hp : (sumN (nb (canN S gone left m)) (nT S) : Int) ≤ (pcount 8 (canN S gone left m) : Int) := by
    rw [pc8_sum]
    have := sumN_sub (f := nb (canN S gone left m)) n8
    omega
  have hp2 := Int.mul_le_mul_of_nonneg_left hp (c := B + 7992000) (by omega)
  unfold vsum vmany
  rw [Int.natCast_add, Int.mul_add]
  by_cases e : left - pcount 8 m = 0
  · rw [e, Int.natCast_zero, Int.zero_mul, Int.mul_zero]
    omega
  · have a0 := h0 (by omega)
    have p0 : (0 : Int) ≤ ((left - pcount 8 m : Nat) : Int) := Int.natCast_nonneg _
    have b1 := Int.mul_nonneg p0 a0.1
    have b2 := Int.mul_le_mul_of_nonneg_left (a := f m) (b := B + 7992000) (c := ((left - pcount 8 m : Nat) : Int)) (by omega) p0
    rw [Int.mul_comm (B + 7992000) ((left - pcount 8 m : Nat) : Int)]
    omega
theorem vw_b {S : ST} (w : WF S) (b : Nat) {pr : Int} (hpr : 0 ≤ pr) {f : Nat → Int} {B : Int} (hB : 0 ≤ B) {gone : Int32} {left m : Nat} (h0 : 0 < left - pcount 8 m → 0 ≤ f m ∧ f m ≤ B) (h1 : ∀ t, t < nT S → nb (canN S gone left m) t ≠ 0 → 0 ≤ f (sDiff m (wonN S t m)) ∧ f (sDiff m (wonN S t m)) ≤ B) : 0 ≤ vw S b pr f gone left m ∧ vw S b pr f gone left m ≤ B + 7992000 := by
  have hs := vsum_b w b hB h0 h1
  unfold vw
  by_cases e : vmany S gone left m = 0
  · rw [if_pos e]
    omega
  · rw [if_neg e]
    have hm : (0 : Int) < (vmany S gone left m : Int) := by omega
    have hd : vsum S b f gone left m / (vmany S gone left m : Int) ≤ B + 7992000 := Int.ediv_le_of_le_mul hm hs.2
    by_cases g : 0 < vsum S b f gone left m / (vmany S gone left m : Int) - 1000 * pr
    · rw [if_pos g]
      omega
    · rw [if_neg g]
      omega
theorem VV_b {S : ST} (w : WF S) (b : Nat) {pr : Int} (hpr : 0 ≤ pr) : ∀ (r : Nat) (gone : Int32) (left m : Nat), 0 ≤ VV S b pr r gone left m ∧ VV S b pr r gone left m ≤ 7992000 * (r : Int)
  | 0, _, _, _ => by
    show (0 : Int) ≤ 0 ∧ (0 : Int) ≤ 7992000 * ((0 : Nat) : Int)
    omega
  | r + 1, gone, left, m => by
    have ih := fun k => VV_b w b hpr r (gone + 1) (left - 1) k
    have := vw_b w b hpr (f := fun k => VV S b pr r (gone + 1) (left - 1) k) (B := 7992000 * (r : Int)) (by omega) (gone := gone) (left := left) (m := m) (fun _ => ih m) (fun t _ _ => ih _)
    show 0 ≤ vw S b pr (fun k => VV S b pr r (gone + 1) (left - 1) k) gone left m ∧ vw S b pr (fun k => VV S b pr r (gone + 1) (left - 1) k) gone left m ≤ 7992000 * ((r + 1 : Nat) : Int)
    omega
theorem vsum_congr {S : ST} {b : Nat} {f f' : Nat → Int} {gone : Int32} {left m : Nat} (h0 : 0 < left - pcount 8 m → f m = f' m) (h1 : ∀ t, t < nT S → nb (canN S gone left m) t ≠ 0 → f (sDiff m (wonN S t m)) = f' (sDiff m (wonN S t m))) : vsum S b f gone left m = vsum S b f' gone left m := by
  unfold vsum
  have e1 : ((left - pcount 8 m : Nat) : Int) * f m = ((left - pcount 8 m : Nat) : Int) * f' m := by
    by_cases e : left - pcount 8 m = 0
    · rw [e, Int.natCast_zero, Int.zero_mul, Int.zero_mul]
    · rw [h0 (by omega)]
  rw [e1]
  congr 1
  refine sumZ_congr (fun t ht => ?_)
  by_cases e : nb (canN S gone left m) t = 0
  · rw [if_pos e, if_pos e]
  · rw [if_neg e, if_neg e, h1 t ht e]
theorem vw_congr {S : ST} {b : Nat} {pr : Int} {f f' : Nat → Int} {gone : Int32} {left m : Nat} (h0 : 0 < left - pcount 8 m → f m = f' m) (h1 : ∀ t, t < nT S → nb (canN S gone left m) t ≠ 0 → f (sDiff m (wonN S t m)) = f' (sDiff m (wonN S t m))) : vw S b pr f gone left m = vw S b pr f' gone left m := by
  unfold vw
  rw [vsum_congr h0 h1]
/-- as many goes ahead as slips are in: more say nothing -/
theorem VV_more {S : ST} (w : WF S) (b : Nat) (pr : Int) : ∀ (left r r' : Nat) (gone : Int32) (m : Nat), left ≤ r → left ≤ r' → pcount 8 m ≤ left → VV S b pr r gone left m = VV S b pr r' gone left m
  | 0, r, r', gone, m, _, _, hp => by
    have z : ∀ r, VV S b pr r gone 0 m = 0 := fun r => by
      cases r with
      | zero => rfl
      | succ r =>
        show vw S b pr _ gone 0 m = 0
        unfold vw
        have : vmany S gone 0 m = 0 := by
          unfold vmany canN
          have := pc_and m (rdN S gone (nI 0))
          omega
        rw [if_pos this]
    rw [z, z]
  | left + 1, r, r', gone, m, h1, h2, hp => by
    obtain ⟨r, rfl⟩ : ∃ k, r = k + 1 := ⟨r - 1, by omega⟩
    obtain ⟨r', rfl⟩ : ∃ k, r' = k + 1 := ⟨r' - 1, by omega⟩
    have n8 := nT_8 w
    show vw S b pr (fun k => VV S b pr r (gone + 1) left k) gone (left + 1) m = vw S b pr (fun k => VV S b pr r' (gone + 1) left k) gone (left + 1) m
    refine vw_congr (fun h0 => VV_more w b pr left r r' (gone + 1) m (by omega) (by omega) (by omega)) (fun t ht hc => VV_more w b pr left r r' (gone + 1) _ (by omega) (by omega) ?_)
    have := pc_diff (m := m) (k := wonN S t m) (t := t) (by omega) (can_1 hc) won_self
    omega
/-- it hangs on what stays of a stall behind goes -/
def stat (S S' : ST) : Prop := S' 2 = S 2 ∧ S' 4 = S 4 ∧ S' 0 0 = S 0 0 ∧ S' 0 7 = S 0 7 ∧ S' 0 8 = S 0 8 ∧ S' 8 = S 8
theorem stat_kd {S S' : ST} (e : stat S S') (t : Nat) : kd S' t = kd S t := by
  unfold kd
  rw [e.1]
theorem stat_nT {S S' : ST} (e : stat S S') : nT S' = nT S := nT_congr e.2.2.2.1
theorem stat_un {S S' : ST} (e : stat S S') (k : Nat) : unN S' k = unN S k := by
  unfold unN
  rw [stat_nT e]
  exact setN_congr (fun t _ => by rw [stat_kd e])
theorem stat_rd {S S' : ST} (e : stat S S') (g l : Int32) : rdN S' g l = rdN S g l := by
  unfold rdN
  rw [stat_nT e]
  refine setN_congr (fun t _ => ?_)
  unfold freeB
  rw [stat_kd e, e.2.1, e.2.2.1]
theorem stat_won {S S' : ST} (e : stat S S') (t m : Nat) : wonN S' t m = wonN S t m := by
  unfold wonN brN
  rw [stat_kd e, stat_un e, stat_nT e]
theorem stat_lk {S S' : ST} (e : stat S S') (b m : Nat) : lkN S' b m = lkN S b m := by
  unfold lkN
  rw [stat_nT e]
  refine sumZ_congr (fun t _ => ?_)
  unfold lkS nB
  rw [stat_nT e, e.2.2.2.2.1, e.2.2.2.2.2]
theorem stat_VV {S S' : ST} (e : stat S S') (b : Nat) (pr : Int) : ∀ (r : Nat) (gone : Int32) (left m : Nat), VV S' b pr r gone left m = VV S b pr r gone left m
  | 0, _, _, _ => rfl
  | r + 1, gone, left, m => by
    show vw S' b pr (fun k => VV S' b pr r (gone + 1) (left - 1) k) gone left m = vw S b pr (fun k => VV S b pr r (gone + 1) (left - 1) k) gone left m
    have ih : (fun k => VV S' b pr r (gone + 1) (left - 1) k) = (fun k => VV S b pr r (gone + 1) (left - 1) k) := by
      funext k
      exact stat_VV e b pr r _ _ k
    have ec : canN S' gone left m = canN S gone left m := by
      unfold canN
      rw [stat_rd e]
    unfold vw vmany vsum
    rw [ih, ec, stat_nT e]
    simp only [stat_won e, stat_lk e]
theorem stat_draw (S : ST) (x b : Int32) : stat S (drawS S x b) := by
  have hc : ∀ c, c ≠ 5 → c ≠ 6 → drawS S x b c = uS (uS S 1 x.toNatClampNeg 0) 0 4 (S 0 4 + 1) c := fun c h5 h6 => drw_c _ _ _ h5 h6 _
  have h0 : ∀ j, j ≠ 4 → drawS S x b 0 j = S 0 j := fun j hj => by
    rw [hc 0 (by decide) (by decide), uS_ne (Or.inr hj), uS_ne (Or.inl (by decide))]
  have hk : ∀ c, c ≠ 0 → c ≠ 1 → c ≠ 5 → c ≠ 6 → drawS S x b c = S c := fun c e0 e1 e5 e6 => by
    rw [hc c e5 e6, uS_c e0, uS_c e1]
  exact ⟨hk 2 (by decide) (by decide) (by decide) (by decide), hk 4 (by decide) (by decide) (by decide) (by decide), h0 0 (by decide), h0 7 (by decide), h0 8 (by decide), hk 8 (by decide) (by decide) (by decide) (by decide)⟩
theorem stat_pay (S : ST) (b x : Int32) : stat S (payS S b x) := ⟨rfl, rfl, rfl, rfl, rfl, rfl⟩
theorem stat_sd (S : ST) : stat S (sdS S) := ⟨rfl, rfl, rfl, rfl, rfl, rfl⟩
theorem stat_tr {S S' S'' : ST} (a : stat S S') (c : stat S' S'') : stat S S'' := ⟨c.1.trans a.1, c.2.1.trans a.2.1, c.2.2.1.trans a.2.2.1, c.2.2.2.1.trans a.2.2.2.1, c.2.2.2.2.1.trans a.2.2.2.2.1, c.2.2.2.2.2.trans a.2.2.2.2.2⟩
theorem stat_rf (S : ST) : stat S S := ⟨rfl, rfl, rfl, rfl, rfl, rfl⟩
/-- things that stand are in -/
theorem st_in {S : ST} (w : WF S) (h0 : S 1 0 = 0) (hz : ∀ i, nS S < i → S 1 i = 0) : pcount 8 (stN S) ≤ inN S := by
  have n8 := nT_8 w
  have hs : (pcount 8 (stN S) : Int) = sumZ (fun t => if S 6 t = -1 then (1 : Int) else 0) (nT S) := by
    rw [pc8_sum, sumN_Z]
    have : ∀ n : Nat, n ≤ 8 → nT S ≤ n → sumZ (fun i => ((nb (stN S) i : Nat) : Int)) n = sumZ (fun t => if S 6 t = -1 then (1 : Int) else 0) (nT S) := by
      intro n
      induction n with
      | zero =>
        intro _ h
        rw [show nT S = 0 by omega]
        rfl
      | succ n ih =>
        intro h1 h2
        by_cases e : nT S = n + 1
        · rw [e]
          refine sumZ_congr (fun i hi => ?_)
          unfold stN ownN
          rw [nb_set]
          by_cases y : S 6 i = -1
          · rw [if_pos ⟨by omega, decide_eq_true y⟩, if_pos y]
            rfl
          · rw [if_neg (fun z => y (of_decide_eq_true z.2)), if_neg y]
            rfl
        · show sumZ (fun i => ((nb (stN S) i : Nat) : Int)) n + ((nb (stN S) n : Nat) : Int) = _
          rw [ih (by omega) (by omega)]
          unfold stN ownN
          rw [nb_set, if_neg (fun z => by omega)]
          omega
    exact this 8 (Nat.le_refl _) n8
  have hi := in_sumZ w hz
  have hb := by_slips w (fun t => if S 6 t = -1 then (1 : Int) else 0)
  have hle : sumZ (fun i => sumZ (fun t => if sl S t = i then (if S 6 t = -1 then (1 : Int) else 0) else 0) (nT S)) (nS S + 1) ≤ sumZ (fun i => ((S 1 i).toNatClampNeg : Int)) (nS S + 1) := by
    have n60 := nS_60 w
    have mono : ∀ (f g : Nat → Int) (n : Nat), (∀ i, i < n → f i ≤ g i) → sumZ f n ≤ sumZ g n := by
      intro f g n
      induction n with
      | zero => intro _; exact Int.le_refl _
      | succ n ih =>
        intro h
        have a := ih (fun i hi => h i (by omega))
        have c := h n (by omega)
        show sumZ f n + f n ≤ sumZ g n + g n
        omega
    refine mono _ _ _ (fun i hi => ?_)
    rcases at_slip w (fun t => if S 6 t = -1 then (1 : Int) else 0) (i := i) (by omega) with ⟨-, e⟩ | ⟨t, ht, -, hsl, e⟩
    · have e' : sumZ (fun t => if sl S t = i then (if S 6 t = -1 then (1 : Int) else 0) else 0) (nT S) = 0 := e
      rw [e']
      exact Int.natCast_nonneg _
    · have e' : sumZ (fun t => if sl S t = i then (if S 6 t = -1 then (1 : Int) else 0) else 0) (nT S) = if S 6 t = -1 then 1 else 0 := e
      rw [e']
      by_cases y : S 6 t = -1
      · rw [if_pos y]
        have o := (w.2.2.1 t ht).2.2.2.2.1 y
        have o2 : S 1 i = 1 := by
          rw [← hsl]
          exact o
        rw [o2]
        decide
      · rw [if_neg y]
        exact Int.natCast_nonneg _
  rw [hb] at hle
  omega
