/-- what is won by a thing's slip, as the thought finds it -/
def lowN (x : Nat) : Nat := if ftN x 8 0 = -1 then 0 else 2 ^ (ftN x 8 0).toNatClampNeg
theorem s_low : ∀ x : Nat, x < 256 → (nI x &&& -(nI x)) = nI (lowN x) ∧ lowN x < 256 := by decide +kernel
theorem ftN_none {m : Nat} : ∀ k j : Nat, (∀ u, j ≤ u → u < j + k → nb m u = 0) → ftN m k j = -1
  | 0, _, _ => rfl
  | k + 1, j, h => by
    show (if nb m j = 0 then ftN m k (j + 1) else nI j) = -1
    rw [if_pos (h j (Nat.le_refl _) (by omega))]
    exact ftN_none k (j + 1) (fun u h1 h2 => h u (by omega) (by omega))
theorem ftN_ext {m k : Nat} : ∀ n j : Nat, (∀ u, j + n ≤ u → u < j + n + k → nb m u = 0) → ftN m (n + k) j = ftN m n j
  | 0, j, h => by
    rw [Nat.zero_add]
    exact ftN_none k j (fun u h1 h2 => h u (by omega) (by omega))
  | n + 1, j, h => by
    rw [show n + 1 + k = (n + k) + 1 by omega]
    show (if nb m j = 0 then ftN m (n + k) (j + 1) else nI j) = (if nb m j = 0 then ftN m n (j + 1) else nI j)
    rw [ftN_ext n (j + 1) (fun u h1 h2 => h u (by omega) (by omega))]
/-- no thing above those that there are -/
def inT (S : ST) (m : Nat) : Prop := m < 256 ∧ ∀ u, nT S ≤ u → u < 8 → nb m u = 0
theorem inT_sub {S : ST} {m k : Nat} (h : inT S m) : inT S (sDiff m k) := ⟨sDiff_lt _ _, fun u h1 h2 => by
  rw [nb_diff m k u h2, if_neg (fun y => by have := h.2 u h1 h2; omega)]⟩
theorem inT_st {S : ST} (w : WF S) : inT S (stN S) := ⟨own_lt w _, fun u h1 _ => by
  unfold stN ownN
  rw [nb_set, if_neg (fun y => by omega)]⟩
theorem won_low {S : ST} (w : WF S) {t m : Nat} (hm : inT S m) (h3 : kd S t = 3) : 2 ^ t ||| lowN (sDiff m (unN S 1)) = wonN S t m := by
  have n8 := nT_8 w
  have e : ftN (sDiff m (unN S 1)) 8 0 = brN S m := by
    unfold brN
    have := ftN_ext (m := sDiff m (unN S 1)) (k := 8 - nT S) (nT S) 0 (fun u h1 h2 => (inT_sub hm).2 u (by omega) (by omega))
    rw [show nT S + (8 - nT S) = 8 by omega] at this
    exact this
  unfold wonN lowN
  rw [e]
  by_cases y : brN S m = -1
  · rw [if_pos y, if_neg (fun z => z.2 y), Nat.or_zero]
  · rw [if_neg y, if_pos ⟨h3, y⟩]
section
variable {T : List Nat} {h0 h : zH} {N A M J : Nat → Int32} {S : ST}
theorem c_wonWith (w : WF S) (c : TH T h0 h (lkNs S) A M J) {t m : Nat} (ht : t < nT S) (hm : inT S m) : F_X3_wonWith h 25 (nI t) (nI m) = nI (wonN S t m) := by
  have n8 := nT_8 w
  have h5 : hv h 25 5 = nI (unN S 3) := c.2.2.2.1 5 (by decide) (by decide)
  have h6 : hv h 25 6 = nI (unN S 1) := c.2.2.2.1 6 (by decide) (by decide)
  have u3 : unN S 3 < 256 := setN_256 n8
  have u1 : unN S 1 < 256 := setN_256 n8
  have hb : nb (unN S 3) t = if kd S t = 3 then 1 else 0 := by
    unfold unN
    rw [nb_set]
    have hk := (kd_i w ht).2
    have key : ∀ k : Nat, k < 6 → (undN k 3 = true ↔ k = 3) := by decide
    by_cases y : kd S t = 3
    · rw [if_pos y, if_pos ⟨ht, (key _ hk).mpr y⟩]
    · rw [if_neg y, if_neg (fun z => y ((key _ hk).mp z.2))]
  unfold F_X3_wonWith
  rw [h5, h6, s_andnot hm.1 u1, (s_low _ (sDiff_lt _ _)).1, s_one t (by omega)]
  have st := s_test _ u3 t (by omega)
  rw [s_one t (by omega)] at st
  by_cases y : kd S t = 3
  · rw [if_neg (fun z => by
      have := st.mp z
      rw [hb, if_pos y] at this
      cases this), s_or (p2_8 (by omega)) (s_low _ (sDiff_lt _ _)).2, won_low w hm y]
  · rw [if_pos (st.mpr (by rw [hb, if_neg y]))]
    unfold wonN
    rw [if_neg (fun z => y z.1)]
theorem F_isSet {m : Nat} (hm : m < 256) : F_X3_isSet (nI m) = 1 := by
  unfold F_X3_isSet
  simp only [letf]
  rw [F_isWithin_eq, nI_t (by omega), if_pos ⟨by rw [e0]; omega, by rw [show (255 : Int32).toInt = 255 from rfl]; omega⟩]
/-- the value that the thought gives a state -/
theorem c_valueOf (w : WF S) {b : Nat} {pr : Int32} (hpr : 0 ≤ pr.toInt ∧ pr.toInt ≤ 99) (c : TH T h0 h (lkNs S) A M (joy S b)) {f : Nat → Int} (hA : ∀ m, m < 256 → A m = iZ (f m)) (hf : ∀ m, 0 ≤ f m ∧ f m ≤ 500000000) {gone : Int32} {left m : Nat} (hl : left ≤ 60) (hm : inT S m) : F_X3_valueOf h 25 (nI m) (nI (canN S gone left m)) (nI (left - pcount 8 m)) pr = iZ (vw S b pr.toInt f gone left m) := by
  have n8 := nT_8 w
  have cl := can_lt (S := S) (gone := gone) (left := left) hm.1
  have p8 : pcount 8 (canN S gone left m) ≤ 8 := by
    rw [pc8_sum]
    have := sumN_le (f := nb (canN S gone left m)) (b := 1) (m := 8) (fun i _ => by have := nb_lt (canN S gone left m) i; omega)
    omega
  have hv3 : hv h 25 3 = S 0 7 := c.2.2.2.1 3 (by decide) (by decide)
  have hs := vsum_b w b (f := f) (B := 500000000) (by omega) (gone := gone) (left := left) (m := m) (fun _ => hf m) (fun t _ _ => hf _)
  unfold F_X3_valueOf
  simp only [letf]
  rw [F_J6_eq _ cl, nI_ad2 (by omega)]
  have vm : left - pcount 8 m + pcount 8 (canN S gone left m) = vmany S gone left m := rfl
  rw [vm]
  have vm68 : vmany S gone left m ≤ 68 := by
    rw [← vm]
    omega
  by_cases e : vmany S gone left m = 0
  · rw [e]
    rw [if_neg (by decide)]
    unfold vw
    rw [if_pos e]
    rfl
  · have h0m : (0 : Int32) < nI (vmany S gone left m) := by
      rw [i_lt, e0, nI_t (by omega)]
      omega
    have hz : ¬ (F_X3_isSet (nI m) = 0) := by
      rw [F_isSet hm.1]
      decide
    rw [if_pos h0m, if_neg hz]
    let ps : Nat → Int := fun j => ((left - pcount 8 m : Nat) : Int) * f m + sumZ (fun t => if nb (canN S gone left m) t = 0 then 0 else 1000 * lkN S b (wonN S t m) + f (sDiff m (wonN S t m))) j
    have hst : ((Int32.toInt64 (nI (left - pcount 8 m))) * (Int32.toInt64 (hv h (hr h 25 0) (nI m).toNatClampNeg)), (0 : Int32)) = (lZ (ps 0), nI 0) := by
      have hm1 := hm.1
      rw [c.2.2.1.1, nI_c (by omega), c.2.2.2.2.1 m hm1, hA m hm1, lZ_n (by omega), lZ_i, iZ_t (by have := hf m; omega) (by have := hf m; omega), ← lZ_mul]
      show (lZ _, (0 : Int32)) = (lZ (_ + 0), nI 0)
      rw [Int.add_zero]
      rfl
    rw [hst]
    refine fx_for (F := B_X3_valueOf_37 h 25 (nI m) (nI (canN S gone left m)) (nI (left - pcount 8 m)) pr (nI (vmany S gone left m))) (d := 0) (fun j => (lZ (ps j), nI j)) (iZ (vw S b pr.toInt f gone left m)) (nT S) ?_ (fun j hj => ?_)
    · unfold B_X3_valueOf_37
      dsimp only
      have hq : lZ (ps (nT S)) = lZ (vsum S b f gone left m) := rfl
      have hd : 0 ≤ vsum S b f gone left m / (vmany S gone left m : Int) := Int.ediv_nonneg hs.1 (by omega)
      have hd2 : vsum S b f gone left m / (vmany S gone left m : Int) ≤ 507992000 := Int.ediv_le_of_le_mul (by omega) hs.2
      have hs2 : vsum S b f gone left m ≤ 507992000 * 68 := by
        have := Int.mul_le_mul_of_nonneg_left (c := 500000000 + 7992000) (a := (vmany S gone left m : Int)) (b := 68) (by omega) (by omega)
        omega
      have e1000 : (1000 : Int64) = lZ 1000 := rfl
      rw [hv3, if_neg (fun y => absurd ((lt_T w (by omega)).mp y) (Nat.lt_irrefl _)), hq, lZ_n (by omega), lZ_div hs.1 (by omega) (by omega) (by omega), lZ_i pr, e1000, ← lZ_mul, ← lZ_sub]
      unfold vw
      rw [if_neg e]
      by_cases g : 0 < vsum S b f gone left m / (vmany S gone left m : Int) - 1000 * pr.toInt
      · rw [if_pos ((lZ_lt (by omega) (by omega)).mpr g), if_pos g, lZ_i32 (by omega) (by omega)]
      · rw [if_neg (fun y => g ((lZ_lt (by omega) (by omega)).mp y)), if_neg g]
        rfl
    · unfold B_X3_valueOf_37
      simp only [letf]
      rw [hv3, if_pos ((lt_T w (by omega)).mpr hj)]
      have st := s_test _ cl j (by omega)
      have hp : ps (j + 1) = ps j + (if nb (canN S gone left m) j = 0 then 0 else 1000 * lkN S b (wonN S j m) + f (sDiff m (wonN S j m))) := by
        show _ + (_ + _) = (_ + _) + _
        rw [Int.add_assoc]
      by_cases z : nb (canN S gone left m) j = 0
      · rw [if_pos (st.mpr z), nI_s, hp, if_pos z, Int.add_zero]
      · have wl := wonN_lt w hj (m := m)
        have lb := lkN_b w b (wonN S j m)
        have fb := hf (sDiff m (wonN S j m))
        have sl := sDiff_lt m (wonN S j m)
        rw [if_neg (fun y => z (st.mp y)), c_wonWith w c hj hm, s_andnot hm.1 wl, c.2.2.1.1, c.2.2.1.2.2, nI_c (by omega), nI_c (by omega), c.2.2.2.2.2.2 _ wl, c.2.2.2.2.1 _ sl, hA _ sl, nI_s, hp, if_neg z]
        unfold joy
        rw [← iZ_add, lZ_i, iZ_t (by omega) (by omega), ← lZ_add]
/-- marks -/
def mkB (M : Nat → Int32) (g m : Nat) : Bool := (M (8 * g + m / 32)).toBitVec.getLsbD (m % 32)
theorem F_hasState {g m : Nat} (hg : g ≤ 60) (hm : m < 256) : F_X3_hasState (nI g) (nI m) = 1 := by
  have hw : F_X4_isWithin (nI g) (0 : Int32) (60 : Int32) = 1 := by
    rw [F_isWithin_eq, nI_t (by omega), if_pos ⟨by rw [e0]; omega, by rw [show (60 : Int32).toInt = 60 from rfl]; omega⟩]
  unfold F_X3_hasState
  simp only [letf]
  rw [hw, if_neg (by decide), F_isSet hm, if_neg (by decide)]
theorem c_isMarked (c : TH T h0 h N A M J) {g m : Nat} (hg : g ≤ 60) (hm : m < 256) : F_X3_isMarked h 25 (nI g) (nI m) = if mkB M g m then 1 else 0 := by
  unfold F_X3_isMarked
  simp only [letf]
  rw [F_hasState hg hm, if_neg (by decide), c.2.2.1.2.1, w_ix hg hm, w_rem m hm, c.2.2.2.2.2.1 _ (by omega)]
  have t := w_test (x := M (8 * g + m / 32)) (a := m % 32) (by omega)
  unfold mkB
  cases e : (M (8 * g + m / 32)).toBitVec.getLsbD (m % 32) with
  | false =>
    rw [if_pos (t.mpr e)]
    rfl
  | true =>
    rw [if_neg (fun y => by rw [t.mp y] at e; cases e)]
    rfl
theorem c_mark (ht : tT T) (c : TH T h0 h N A M J) {g m : Nat} (hg : g ≤ 60) (hm : m < 256) : ∃ M', TH T h0 (F_X3_mark h 25 (nI g) (nI m)) N A M' J ∧ ∀ g' m', g' ≤ 60 → m' < 256 → mkB M' g' m' = if g' = g ∧ m' = m then true else mkB M g' m' := by
  unfold F_X3_mark
  simp only [letf]
  rw [F_hasState hg hm, if_neg (by decide), c.2.2.1.2.1, w_ix hg hm, w_rem m hm, c.2.2.2.2.2.1 _ (by omega)]
  refine ⟨_, th_pM ht c (i := 8 * g + m / 32) (by omega) _, fun g' m' hg' hm' => ?_⟩
  unfold mkB
  have hu : ∀ x, upF M (8 * g + m / 32) x (8 * g' + m' / 32) = if 8 * g' + m' / 32 = 8 * g + m / 32 then x else M (8 * g' + m' / 32) := fun _ => rfl
  rw [hu]
  by_cases e : 8 * g' + m' / 32 = 8 * g + m / 32
  · rw [if_pos e, w_put (by omega) (by omega), e]
    by_cases y : m' % 32 = m % 32
    · rw [if_pos y, if_pos ⟨by omega, by omega⟩]
    · rw [if_neg y, if_neg (fun z => y (by rw [z.2]))]
  · rw [if_neg e, if_neg (fun z => e (by rw [z.1, z.2]))]
/-- the values of a layer -/
def subS (m k : Nat) : Prop := sDiff m k = 0
theorem sub_nb {m k : Nat} (h : subS m k) {t : Nat} (ht : t < 8) : nb m t ≤ nb k t := by
  have := nb_diff m k t ht
  rw [h] at this
  have z : nb 0 t = 0 := nb_big (Nat.two_pow_pos t)
  rw [z] at this
  have a := nb_lt m t
  have b := nb_lt k t
  by_cases e : nb m t = 1 ∧ nb k t = 0
  · rw [if_pos e] at this
    cases this
  · omega
theorem sub_of {m k : Nat} (h : ∀ t, t < 8 → nb m t ≤ nb k t) : subS m k := by
  refine nb_ext (sDiff_lt _ _) (by decide) (fun t ht => ?_)
  have z : nb 0 t = 0 := nb_big (Nat.two_pow_pos t)
  have := h t ht
  rw [nb_diff m k t ht, z, if_neg (fun y => by omega)]
theorem sub_diff {m k x : Nat} (h : subS m k) : subS (sDiff m x) k := sub_of (fun t ht => by
  have := sub_nb h ht
  rw [nb_diff m x t ht]
  by_cases e : nb m t = 1 ∧ nb x t = 0
  · rw [if_pos e]
    omega
  · rw [if_neg e]
    omega)
theorem sub_rf (m : Nat) : subS m m := sub_of (fun _ _ => Nat.le_refl _)
theorem sub_le {m k : Nat} (hm : m < 256) (hk : k < 256) (h : subS m k) : m ≤ k := by
  have key : m &&& k = m := by
    refine nb_ext (Nat.lt_of_le_of_lt Nat.and_le_left hm) hm (fun t ht => ?_)
    have := sub_nb h ht
    have a := nb_lt m t
    have b := nb_lt k t
    rw [nb_and]
    by_cases e : nb m t = 1 ∧ nb k t = 1
    · rw [if_pos e, e.1]
    · rw [if_neg e]
      omega
  have : m &&& k ≤ k := Nat.and_le_right
  omega
theorem sub_inT {S : ST} {m k : Nat} (hm : m < 256) (h : subS m k) (hk : inT S k) : inT S m := ⟨hm, fun u h1 h2 => by
  have := sub_nb h h2
  have := hk.2 u h1 h2
  omega⟩
theorem sub_pc {m k : Nat} (h : subS m k) : pcount 8 m ≤ pcount 8 k := by
  rw [pc8_sum, pc8_sum]
  exact sumN_mono (fun i hi => sub_nb h hi)
end
/-- layer k's value of a set, behind k goes; 0 where there is none -/
def vcl (S : ST) (b : Nat) (pr : Int) (dep k m : Nat) : Int := if sDiff m (stN S) = 0 ∧ pcount 8 m ≤ inN S - k then VV S b pr (dep - k) (S 0 4 + nI k) (inN S - k) m else 0
theorem vcl_b {S : ST} (w : WF S) (b : Nat) {pr : Int} (hpr : 0 ≤ pr) {dep k : Nat} (hd : dep ≤ 60) (m : Nat) : 0 ≤ vcl S b pr dep k m ∧ vcl S b pr dep k m ≤ 500000000 := by
  unfold vcl
  by_cases e : sDiff m (stN S) = 0 ∧ pcount 8 m ≤ inN S - k
  · rw [if_pos e]
    have := VV_b w b hpr (dep - k) (S 0 4 + nI k) (inN S - k) m
    omega
  · rw [if_neg e]
    omega
theorem vcl_dep (S : ST) (b : Nat) (pr : Int) (dep m : Nat) {k : Nat} (h : dep ≤ k) : vcl S b pr dep k m = 0 := by
  unfold vcl
  rw [show dep - k = 0 by omega]
  exact ite_self 0
theorem vcl_step {S : ST} (w : WF S) (b : Nat) (pr : Int) {dep k m : Nat} (hk : k < dep) (hd : dep ≤ inN S) (hm : m < 256) (hs : sDiff m (stN S) = 0) (hp : pcount 8 m ≤ inN S - k) {f : Nat → Int} (hf : ∀ x, x < 256 → subS x m → f x = vcl S b pr dep (k + 1) x) : vw S b pr f (S 0 4 + nI k) (inN S - k) m = vcl S b pr dep k m := by
  have n8 := nT_8 w
  unfold vcl
  rw [if_pos ⟨hs, hp⟩, show dep - k = (dep - (k + 1)) + 1 by omega]
  show _ = vw S b pr (fun x => VV S b pr (dep - (k + 1)) (S 0 4 + nI k + 1) (inN S - k - 1) x) (S 0 4 + nI k) (inN S - k) m
  have eg : S 0 4 + nI k + 1 = S 0 4 + nI (k + 1) := by rw [Int32.add_assoc, nI_s]
  have key : ∀ x, x < 256 → subS x m → pcount 8 x ≤ inN S - (k + 1) → f x = VV S b pr (dep - (k + 1)) (S 0 4 + nI k + 1) (inN S - k - 1) x := fun x x6 hx hpx => by
    have sx : sDiff x (stN S) = 0 := sub_of (fun t ht => Nat.le_trans (sub_nb hx ht) (sub_nb hs ht))
    rw [hf x x6 hx, eg, show inN S - k - 1 = inN S - (k + 1) by omega]
    unfold vcl
    rw [if_pos ⟨sx, hpx⟩]
  refine vw_congr (fun h0 => key m hm (sub_rf m) (by omega)) (fun t ht hc => key _ (sDiff_lt _ _) (sub_diff (sub_rf m)) ?_)
  have := pc_diff (m := m) (k := wonN S t m) (t := t) (by omega) (can_1 hc) won_self
  omega
