/-- rows copied -/
theorem hcpy_get {h : zH} {p q sp dp n a i t0 t1 : Nat} {f g : List zV} (hp : h[p]? = some (t0, f)) (hq : h[q]? = some (t1, g)) (l0 : sp + n ≤ f.length) (l1 : dp + n ≤ g.length) : hget (hcpy h p sp q dp n) a i = if a = q ∧ dp ≤ i ∧ i < dp + n then hget h p (sp + (i - dp)) else hget h a i := by
  rw [hcpy_eq hp hq]
  have hl := (List.getElem?_eq_some_iff.mp hq).1
  by_cases e : a = q
  · rw [e, hget_eq (List.getElem?_set_self hl), hget_eq hp, hget_eq hq]
    unfold zcpy
    have e1 : (g.take dp).length = dp := by rw [List.length_take]; omega
    have e2 : ((f.drop sp).take n).length = n := by rw [List.length_take, List.length_drop]; omega
    by_cases c : dp ≤ i ∧ i < dp + n
    · rw [if_pos ⟨rfl, c⟩, List.getElem?_append_right (by omega), List.getElem?_append_left (by omega), List.getElem?_take, if_pos (by omega), List.getElem?_drop, e1]
    · rw [if_neg (fun y => c y.2)]
      by_cases h3 : i < dp
      · rw [List.getElem?_append_left (by omega), List.getElem?_take, if_pos h3]
      · rw [List.getElem?_append_right (by omega), List.getElem?_append_right (by omega), List.getElem?_drop, e1, e2, show dp + n + (i - dp - n) = i by omega]
  · rw [if_neg (fun y => e y.1)]
    unfold hget
    rw [List.getElem?_set_ne (fun y => e y.symm)]
def upX (rd : Nat → Nat → Int32) (d n : Nat) (f : Nat → Int32) : Nat → Nat → Int32 := fun d' i' => if d' = d ∧ i' < n then f i' else rd d' i'
theorem upX_0 (rd : Nat → Nat → Int32) (d : Nat) (f : Nat → Int32) : upX rd d 0 f = rd := by
  funext d' i'
  exact if_neg (fun y => absurd y.2 (Nat.not_lt_zero _))
theorem upX_s (rd : Nat → Nat → Int32) (d n : Nat) (f : Nat → Int32) : upR (upX rd d n f) d n (f n) = upX rd d (n + 1) f := by
  funext d' i'
  show (if d' = d ∧ i' = n then f n else if d' = d ∧ i' < n then f i' else rd d' i') = if d' = d ∧ i' < n + 1 then f i' else rd d' i'
  by_cases e : d' = d ∧ i' = n
  · rw [if_pos e, if_pos ⟨e.1, by omega⟩, e.2]
  · rw [if_neg e]
    by_cases f : d' = d ∧ i' < n
    · rw [if_pos f, if_pos ⟨f.1, by omega⟩]
    · rw [if_neg f, if_neg (fun y => by omega)]
theorem mkC_z0 (rd : Nat → Nat → Int32) (jj : Int64) (k : Nat) : mkC rd jj 0 (k + 9) = 0 := rfl
theorem mkC_z (rd : Nat → Nat → Int32) (jj : Int64) (k i : Nat) : mkC rd jj (k + 9) i = 0 := rfl
theorem mkC_congr {rd rd' : Nat → Nat → Int32} {jj : Int64} (t8 : (rd 0 8).toNatClampNeg ≤ 8) (b4 : (rd 0 14).toNatClampNeg ≤ 4) (h0 : ∀ i, (i = 0 ∨ i = 1 ∨ i = 2 ∨ i = 3 ∨ i = 4 ∨ i = 5 ∨ i = 6 ∨ i = 8 ∨ i = 14) → rd' 0 i = rd 0 i) (hr : ∀ d i, 1 ≤ d → d ≤ 5 → i < 8 → rd' d i = rd d i) (h6 : ∀ i, i < 4 → rd' 6 i = rd 6 i) (h7 : ∀ i, i < 32 → rd' 7 i = rd 7 i) : mkC rd' jj = mkC rd jj := by
  have row : ∀ (c i : Nat), 2 ≤ c → c ≤ 6 → (if i < (rd' 0 8).toNatClampNeg then rd' (c - 1) i else 0) = if i < (rd 0 8).toNatClampNeg then rd (c - 1) i else 0 := by
    intro c i c2 c6
    rw [h0 8 (by omega)]
    by_cases e : i < (rd 0 8).toNatClampNeg
    · rw [if_pos e, if_pos e, hr (c - 1) i (by omega) (by omega) (by omega)]
    · rw [if_neg e, if_neg e]
  funext c' i'
  match c' with
  | 0 =>
    match i' with
    | 0 => exact h0 0 (by omega)
    | 1 => exact h0 1 (by omega)
    | 2 => exact h0 2 (by omega)
    | 3 => exact h0 3 (by omega)
    | 4 => exact h0 4 (by omega)
    | 5 => exact h0 5 (by omega)
    | 6 => exact h0 6 (by omega)
    | 7 => exact h0 8 (by omega)
    | 8 => exact h0 14 (by omega)
    | k + 9 => exact (mkC_z0 rd' jj k).trans (mkC_z0 rd jj k).symm
  | 1 =>
    show (if 1 ≤ i' ∧ i' ≤ (rd' 0 0).toNatClampNeg then nI (nb (jN jj) i') else 0) = (if 1 ≤ i' ∧ i' ≤ (rd 0 0).toNatClampNeg then nI (nb (jN jj) i') else 0)
    rw [h0 0 (by omega)]
  | 2 => exact row 2 i' (by decide) (by decide)
  | 3 => exact row 3 i' (by decide) (by decide)
  | 4 => exact row 4 i' (by decide) (by decide)
  | 5 => exact row 5 i' (by decide) (by decide)
  | 6 => exact row 6 i' (by decide) (by decide)
  | 7 =>
    show (if i' < (rd' 0 14).toNatClampNeg then rd' 6 i' else 0) = (if i' < (rd 0 14).toNatClampNeg then rd 6 i' else 0)
    rw [h0 14 (by omega)]
    by_cases e : i' < (rd 0 14).toNatClampNeg
    · rw [if_pos e, if_pos e, h6 i' (by omega)]
    · rw [if_neg e, if_neg e]
  | 8 =>
    show (if i' % 8 < (rd' 0 8).toNatClampNeg ∧ i' / 8 < (rd' 0 14).toNatClampNeg then rd' 7 i' else 0) = (if i' % 8 < (rd 0 8).toNatClampNeg ∧ i' / 8 < (rd 0 14).toNatClampNeg then rd 7 i' else 0)
    rw [h0 8 (by omega), h0 14 (by omega)]
    by_cases e : i' % 8 < (rd 0 8).toNatClampNeg ∧ i' / 8 < (rd 0 14).toNatClampNeg
    · rw [if_pos e, if_pos e, h7 i' (by omega)]
    · rw [if_neg e, if_neg e]
  | k + 9 => exact (mkC_z rd' jj k i').trans (mkC_z rd jj k i').symm
theorem mkR_congr {rd rd' : Nat → Nat → Int32} (s6 : (rd 0 9).toNatClampNeg ≤ 60) (t8 : (rd 0 17).toNatClampNeg ≤ 8) (b4 : (rd 0 23).toNatClampNeg ≤ 4) (h0 : ∀ i, (i = 9 ∨ i = 10 ∨ i = 11 ∨ i = 12 ∨ i = 13 ∨ i = 14 ∨ i = 15 ∨ i = 17 ∨ i = 23) → rd' 0 i = rd 0 i) (h1 : ∀ i, i < 61 → rd' 17 i = rd 17 i) (hr : ∀ d i, 18 ≤ d → d ≤ 22 → i < 8 → rd' d i = rd d i) (h6 : ∀ i, i < 4 → rd' 23 i = rd 23 i) (h7 : ∀ b i, b < 4 → i < 8 → rd' (25 + b) i = rd (25 + b) i) : mkR rd' = mkR rd := by
  have row : ∀ (c i : Nat), 2 ≤ c → c ≤ 6 → (if i < (rd' 0 17).toNatClampNeg then rd' (c + 16) i else 0) = if i < (rd 0 17).toNatClampNeg then rd (c + 16) i else 0 := by
    intro c i c2 c6
    rw [h0 17 (by omega)]
    by_cases e : i < (rd 0 17).toNatClampNeg
    · rw [if_pos e, if_pos e, hr (c + 16) i (by omega) (by omega) (by omega)]
    · rw [if_neg e, if_neg e]
  funext c' i'
  match c' with
  | 0 =>
    match i' with
    | 0 => exact h0 9 (by omega)
    | 1 => exact h0 10 (by omega)
    | 2 => exact h0 11 (by omega)
    | 3 => exact h0 12 (by omega)
    | 4 => exact h0 13 (by omega)
    | 5 => exact h0 14 (by omega)
    | 6 => exact h0 15 (by omega)
    | 7 => exact h0 17 (by omega)
    | 8 => exact h0 23 (by omega)
    | k + 9 => exact (mkR_z0 rd' k).trans (mkR_z0 rd k).symm
  | 1 =>
    show (if 1 ≤ i' ∧ i' ≤ (rd' 0 9).toNatClampNeg then 1 - rd' 17 i' else 0) = (if 1 ≤ i' ∧ i' ≤ (rd 0 9).toNatClampNeg then 1 - rd 17 i' else 0)
    rw [h0 9 (by omega)]
    by_cases e : 1 ≤ i' ∧ i' ≤ (rd 0 9).toNatClampNeg
    · rw [if_pos e, if_pos e, h1 i' (by omega)]
    · rw [if_neg e, if_neg e]
  | 2 => exact row 2 i' (by decide) (by decide)
  | 3 => exact row 3 i' (by decide) (by decide)
  | 4 => exact row 4 i' (by decide) (by decide)
  | 5 => exact row 5 i' (by decide) (by decide)
  | 6 => exact row 6 i' (by decide) (by decide)
  | 7 =>
    show (if i' < (rd' 0 23).toNatClampNeg then rd' 23 i' else 0) = (if i' < (rd 0 23).toNatClampNeg then rd 23 i' else 0)
    rw [h0 23 (by omega)]
    by_cases e : i' < (rd 0 23).toNatClampNeg
    · rw [if_pos e, if_pos e, h6 i' (by omega)]
    · rw [if_neg e, if_neg e]
  | 8 =>
    show (if i' % 8 < (rd' 0 17).toNatClampNeg ∧ i' / 8 < (rd' 0 23).toNatClampNeg then rd' (25 + i' / 8) (i' % 8) else 0) = (if i' % 8 < (rd 0 17).toNatClampNeg ∧ i' / 8 < (rd 0 23).toNatClampNeg then rd (25 + i' / 8) (i' % 8) else 0)
    rw [h0 17 (by omega), h0 23 (by omega)]
    by_cases e : i' % 8 < (rd 0 17).toNatClampNeg ∧ i' / 8 < (rd 0 23).toNatClampNeg
    · rw [if_pos e, if_pos e, h7 (i' / 8) (i' % 8) (by omega) (by omega)]
    · rw [if_neg e, if_neg e]
  | k + 9 => exact (mkR_z rd' k i').trans (mkR_z rd k i').symm
/-- the class's rows -/
def cRow (d n : Nat) : Prop := (d = 1 ∧ n = 8) ∨ (d = 2 ∧ n = 8) ∨ (d = 3 ∧ n = 8) ∨ (d = 4 ∧ n = 8) ∨ (d = 5 ∧ n = 8) ∨ (d = 6 ∧ n = 4) ∨ (d = 7 ∧ n = 32)
def iTy (T : List Nat) (p n : Nat) : Prop := ∃ τ, T[p]? = some τ ∧ (zty τ).1 = 10 ∧ (zty τ).2.1 = n ∧ ∀ i, ((zty τ).2.2 i).1 = 0
section
variable {T : List Nat} {h h' : zH} {q p : Nat} {S : ST} {rd : Nat → Nat → Int32} {jj : Int64}
theorem cRow_ty (c : CLay T h q) {d n : Nat} (hd : cRow d n) : iTy T (q + d) n := by
  rcases hd with ⟨rfl, rfl⟩ | ⟨rfl, rfl⟩ | ⟨rfl, rfl⟩ | ⟨rfl, rfl⟩ | ⟨rfl, rfl⟩ | ⟨rfl, rfl⟩ | ⟨rfl, rfl⟩
  · exact ⟨11, (c.2 (9, 1, 11) (by decide +kernel)).2, rfl, rfl, fun _ => rfl⟩
  · exact ⟨12, (c.2 (10, 2, 12) (by decide +kernel)).2, rfl, rfl, fun _ => rfl⟩
  · exact ⟨13, (c.2 (11, 3, 13) (by decide +kernel)).2, rfl, rfl, fun _ => rfl⟩
  · exact ⟨14, (c.2 (12, 4, 14) (by decide +kernel)).2, rfl, rfl, fun _ => rfl⟩
  · exact ⟨15, (c.2 (13, 5, 15) (by decide +kernel)).2, rfl, rfl, fun _ => rfl⟩
  · exact ⟨16, (c.2 (15, 6, 16) (by decide +kernel)).2, rfl, rfl, fun _ => rfl⟩
  · exact ⟨17, (c.2 (16, 7, 17) (by decide +kernel)).2, rfl, rfl, fun _ => rfl⟩
theorem CR_cpy (c : CR T h q rd jj) {d n : Nat} (hd : cRow d n) (hp : iTy T p n) : CR T (hcpy h p 0 (q + d) 0 n) q (upX rd d n (fun i => hv h p i)) jj ∧ sO q 8 h (hcpy h p 0 (q + d) 0 n) := by
  obtain ⟨τ, p1, p2, p3, p4⟩ := hp
  obtain ⟨σ, s1, s2, s3, s4⟩ := cRow_ty c.2.1 hd
  obtain ⟨f, f1, f2, -⟩ := hOK_cell c.1 p1
  obtain ⟨g, g1, g2, -⟩ := hOK_cell c.1 s1
  have f2 : f.length = (zty τ).2.1 := f2
  have g2 : g.length = (zty σ).2.1 := g2
  have f1 : h[p]? = some ((zty τ).1, f) := f1
  have g1 : h[q + d]? = some ((zty σ).1, g) := g1
  have key := fun a i => hcpy_get (sp := 0) (dp := 0) (n := n) (a := a) (i := i) f1 g1 (by omega) (by omega)
  have ok := hcpy_ok (sp := 0) (dp := 0) (n := n) c.1 p1 s1 f1 g1 p4 s4 (Or.inl rfl) (by omega) (by omega)
  have he := hcpy_eq (sp := 0) (dp := 0) (n := n) f1 g1
  have d1 : 1 ≤ d ∧ d ≤ 7 := by
    rcases hd with y | y | y | y | y | y | y <;> omega
  have so : sO q 8 h (hcpy h p 0 (q + d) 0 n) := fun a i hai => by rw [key, if_neg (fun y => by omega)]
  have k0 : ∀ i, hget (hcpy h p 0 (q + d) 0 n) q i = hget h q i := fun i => by rw [key, if_neg (fun y => by omega)]
  refine ⟨⟨by rw [he]; exact ok, ⟨c.2.1.1, fun o ho => ⟨(hr_eq (k0 _)).trans (c.2.1.2 o ho).1, (c.2.1.2 o ho).2⟩⟩, ?_, (hJ_eq (k0 _)).trans c.2.2.2⟩, so⟩
  funext d' i'
  show hv (hcpy h p 0 (q + d) 0 n) (q + d') i' = if d' = d ∧ i' < n then hv h p i' else rd d' i'
  by_cases y : d' = d ∧ i' < n
  · rw [if_pos y]
    unfold hv
    rw [key, if_pos ⟨by omega, Nat.zero_le _, by omega⟩, Nat.zero_add, Nat.sub_zero]
  · rw [if_neg y, ← CR_rd c d' i']
    exact hv_eq (by rw [key, if_neg (fun z => y ⟨by omega, by omega⟩)])
def BK (T : List Nat) (q : Nat) (h : zH) (rd : Nat → Nat → Int32) (jj : Int64) (h' : zH) : Prop := CR T h' q rd jj ∧ sO q 8 h h'
theorem bk_put (b : BK T q h rd jj h') (hpq : p + 8 ≤ q ∨ q + 8 ≤ p) {i : Nat} (hc : cCell 0 i) : BK T q h (upR rd 0 i (hv h p i)) jj (hput h' q i (.inl (.int (hv h' p i)))) := by
  have e : hv h' p i = hv h p i := hv_eq (b.2 p i (by omega))
  rw [e]
  exact ⟨CR_put (d := 0) b.1 hc, sO_t b.2 (sO_put (d := 0) (by decide))⟩
theorem bk_putJ (b : BK T q h rd jj h') (hpq : p + 8 ≤ q ∨ q + 8 ≤ p) : BK T q h rd (hJ h p 7) (hput h' q 7 (.inl (.long (hJ h' p 7)))) := by
  have e : hJ h' p 7 = hJ h p 7 := hJ_eq (b.2 p 7 (by omega))
  rw [e]
  exact ⟨CR_putJ b.1, sO_t b.2 (sO_put (d := 0) (by decide))⟩
theorem bk_cpy (b : BK T q h rd jj h') (lp : CLay T h p) (hpq : p + 8 ≤ q ∨ q + 8 ≤ p) {o d n : Nat} (hd : cRow d n) (ho : hr h p o = p + d) (hq : CLay T h' q → hr h' q o = q + d) : BK T q h (upX rd d n (fun i => hv h (p + d) i)) jj (hcpy h' (hr h' p o) 0 (hr h' q o) 0 n) := by
  have d1 : 1 ≤ d ∧ d ≤ 7 := by
    rcases hd with y | y | y | y | y | y | y <;> omega
  rw [hq b.1.2.1, (hr_eq (b.2 p o (by omega))).trans ho]
  have e : (fun i => hv h' (p + d) i) = (fun i => hv h (p + d) i) := by
    funext i
    exact hv_eq (b.2 (p + d) i (by omega))
  have := CR_cpy b.1 hd (cRow_ty lp hd)
  rw [e] at this
  exact ⟨this.1, sO_t b.2 this.2⟩
theorem cc0 {i : Nat} (h : i = 0 ∨ i = 1 ∨ i = 2 ∨ i = 3 ∨ i = 4 ∨ i = 5 ∨ i = 6 ∨ i = 8 ∨ i = 14) : cCell 0 i := Or.inl ⟨rfl, h⟩
theorem cm_become (c : CR T h' q rd jj) (s : sO q 8 h h') (cp : CC T h' p) (hpq : p + 8 ≤ q ∨ q + 8 ≤ p) : CM T q h (cAbs h' p) (F_X1_become h' q p) := by
  have w := cp.2.2.1
  have lp := cp.2.1
  have t8 : (hv h' p 8).toNatClampNeg ≤ 8 := nT_8 w
  have b4 : (hv h' p 14).toNatClampNeg ≤ 4 := nB_4 w
  have z0 : (0 : Int32).toNatClampNeg = 0 := by decide
  have z8 : (8 : Int32).toNatClampNeg = 8 := by decide
  have z4 : (4 : Int32).toNatClampNeg = 4 := by decide
  have z32 : (32 : Int32).toNatClampNeg = 32 := by decide
  have b0 : BK T q h' rd jj h' := ⟨c, sO_r _ _ _⟩
  have b1 := bk_put b0 hpq (i := 0) (cc0 (by omega))
  have b2 := bk_put b1 hpq (i := 1) (cc0 (by omega))
  have b3 := bk_put b2 hpq (i := 2) (cc0 (by omega))
  have b4' := bk_put b3 hpq (i := 3) (cc0 (by omega))
  have b5 := bk_put b4' hpq (i := 4) (cc0 (by omega))
  have b6 := bk_put b5 hpq (i := 5) (cc0 (by omega))
  have b7 := bk_put b6 hpq (i := 6) (cc0 (by omega))
  have b8 := bk_putJ b7 hpq
  have b9 := bk_put b8 hpq (i := 8) (cc0 (by omega))
  have b10 := bk_cpy b9 lp hpq (o := 9) (d := 1) (n := 8) (by unfold cRow; omega) (cl9 lp) cl9
  have b11 := bk_cpy b10 lp hpq (o := 10) (d := 2) (n := 8) (by unfold cRow; omega) (cl10 lp) cl10
  have b12 := bk_cpy b11 lp hpq (o := 11) (d := 3) (n := 8) (by unfold cRow; omega) (cl11 lp) cl11
  have b13 := bk_cpy b12 lp hpq (o := 12) (d := 4) (n := 8) (by unfold cRow; omega) (cl12 lp) cl12
  have b14 := bk_cpy b13 lp hpq (o := 13) (d := 5) (n := 8) (by unfold cRow; omega) (cl13 lp) cl13
  have b15 := bk_put b14 hpq (i := 14) (cc0 (by omega))
  have b16 := bk_cpy b15 lp hpq (o := 15) (d := 6) (n := 4) (by unfold cRow; omega) (cl15 lp) cl15
  have b17 := bk_cpy b16 lp hpq (o := 16) (d := 7) (n := 32) (by unfold cRow; omega) (cl16 lp) cl16
  unfold F_X1_become
  simp only [letf, z0, z8, z4, z32]
  refine ⟨_, _, b17.1, ⟨fun i hi h0 => cp.2.2.2.1 i hi h0, fun i hi hn => ?_⟩, ?_, sO_t s b17.2⟩
  · exact (if_pos ⟨rfl, hi⟩).trans (cp.2.2.2.2 i hi hn)
  · rw [cAbs_mk]
    refine mkC_congr t8 b4 (fun i hi => ?_) (fun d i h1 h5 h8 => ?_) (fun i hi => ?_) (fun i hi => ?_)
    · rcases hi with rfl | rfl | rfl | rfl | rfl | rfl | rfl | rfl | rfl <;> rfl
    · have hd : d = 1 ∨ d = 2 ∨ d = 3 ∨ d = 4 ∨ d = 5 := by omega
      rcases hd with rfl | rfl | rfl | rfl | rfl <;> simp [upX, upR, h8]
    · simp [upX, upR, hi]
    · simp [upX, upR, hi]
/-- the reference's rows -/
def rRow (d n : Nat) : Prop := (d = 17 ∧ n = 61) ∨ (d = 18 ∧ n = 8) ∨ (d = 19 ∧ n = 8) ∨ (d = 20 ∧ n = 8) ∨ (d = 21 ∧ n = 8) ∨ (d = 22 ∧ n = 8) ∨ (d = 23 ∧ n = 4) ∨ ∃ b, b < 4 ∧ d = 25 + b ∧ n = 8
def gov (n : Int32) (c0 c1 : Nat) (s : Int32 × zH) : (Int32 × zH) ⊕ zH := if s.1 < n then letf (hput s.2 c1 s.1.toNatClampNeg (.inl (.int (hv s.2 c0 s.1.toNatClampNeg)))) (fun h1 => Sum.inl ((s.1 + (1 : Int32)), h1)) else Sum.inr s.2
theorem rRow_b {d n : Nat} (hd : rRow d n) : 17 ≤ d ∧ d < 29 ∧ n ≤ 61 ∧ ∀ j, j < n → rCell d j := by
  rcases hd with y | y | y | y | y | y | y | ⟨b, y⟩
  · exact ⟨by omega, by omega, by omega, fun j hj => by unfold rCell; omega⟩
  · exact ⟨by omega, by omega, by omega, fun j hj => by unfold rCell; omega⟩
  · exact ⟨by omega, by omega, by omega, fun j hj => by unfold rCell; omega⟩
  · exact ⟨by omega, by omega, by omega, fun j hj => by unfold rCell; omega⟩
  · exact ⟨by omega, by omega, by omega, fun j hj => by unfold rCell; omega⟩
  · exact ⟨by omega, by omega, by omega, fun j hj => by unfold rCell; omega⟩
  · exact ⟨by omega, by omega, by omega, fun j hj => by unfold rCell; omega⟩
  · exact ⟨by omega, by omega, by omega, fun j hj => Or.inr (Or.inr (Or.inr (Or.inr (Or.inr (Or.inr (Or.inr (Or.inr ⟨b, by omega, by omega, by omega⟩)))))))⟩
theorem RR_over (c : RR T h q rd) {d n : Nat} (hd : rRow d n) (hp : p < q ∨ q + 29 ≤ p) : RR T (fx (gov (nI n) p (q + d)) [] ((0 : Int32), h)) q (upX rd d n (fun i => hv h p i)) ∧ sQ q h (fx (gov (nI n) p (q + d)) [] ((0 : Int32), h)) := by
  obtain ⟨d1, d2, n6, hc⟩ := rRow_b hd
  refine fx_forI (F := gov (nI n) p (q + d)) (d := []) (fun j (x : Int32 × zH) => x.1 = nI j ∧ RR T x.2 q (upX rd d j (fun i => hv h p i)) ∧ sQ q h x.2) (fun r => RR T r q (upX rd d n (fun i => hv h p i)) ∧ sQ q h r) n (fun x hx => ?_) (fun j x hj hx => ?_) ?_
  · obtain ⟨x1, x2⟩ := x
    obtain ⟨e, g1, g2⟩ := hx
    have e : x1 = nI n := e
    subst e
    refine ⟨x2, ?_, g1, g2⟩
    unfold gov
    exact if_neg (fun y => absurd (i_lt.mp y) (Int.lt_irrefl _))
  · obtain ⟨x1, x2⟩ := x
    obtain ⟨e, g1, g2⟩ := hx
    have e : x1 = nI j := e
    have g1 : RR T x2 q (upX rd d j (fun i => hv h p i)) := g1
    have g2 : sQ q h x2 := g2
    subst e
    have ev : hv x2 p j = hv h p j := hv_eq (sQ_sO g2 p j (by omega))
    have g3 := RR_put (d := d) (i := j) (x := hv h p j) g1 (hc j hj)
    have us := upX_s rd d j (fun i => hv h p i)
    have us : upR (upX rd d j (fun i => hv h p i)) d j (hv h p j) = upX rd d (j + 1) (fun i => hv h p i) := us
    rw [us] at g3
    refine Or.inr ⟨(nI (j + 1), hput x2 (q + d) j (.inl (.int (hv h p j)))), ?_, rfl, g3, sQ_t g2 (sQ_put (hc j hj))⟩
    unfold gov
    simp only [letf]
    rw [if_pos (by rw [i_lt, nI_t (by omega), nI_t (by omega)]; omega), nI_c (by omega), ev, nI_s]
  · refine ⟨rfl, ?_, sQ_r _ _⟩
    rw [upX_0]
    exact c
def BR (T : List Nat) (q : Nat) (h : zH) (rd : Nat → Nat → Int32) (h' : zH) : Prop := RR T h' q rd ∧ sQ q h h'
theorem br_put (b : BR T q h rd h') (hpq : p + 29 ≤ q ∨ q + 29 ≤ p) {i : Nat} (hc : rCell 0 i) : BR T q h (upR rd 0 i (hv h p i)) (hput h' q i (.inl (.int (hv h' p i)))) := by
  have e : hv h' p i = hv h p i := hv_eq (sQ_sO b.2 p i (by omega))
  rw [e]
  exact ⟨RR_put (d := 0) b.1 hc, sQ_t b.2 (sQ_put (d := 0) hc)⟩
theorem br_over (b : BR T q h rd h') (hpq : p + 29 ≤ q ∨ q + 29 ≤ p) {o d n : Nat} (hd : rRow d n) (ho : hr h p o = p + d) (hq : RLay T h' q → hr h' q o = q + d) : BR T q h (upX rd d n (fun i => hv h (p + d) i)) (fx (gov (nI n) (hr h' p o) (hr h' q o)) [] ((0 : Int32), h')) := by
  obtain ⟨d1, d2, n6, hc⟩ := rRow_b hd
  rw [hq b.1.2.1, (hr_eq (sQ_sO b.2 p o (by omega))).trans ho]
  have e : (fun i => hv h' (p + d) i) = (fun i => hv h (p + d) i) := by
    funext i
    exact hv_eq (sQ_sO b.2 (p + d) i (by omega))
  have := RR_over b.1 hd (p := p + d) (by omega)
  rw [e] at this
  exact ⟨this.1, sQ_t b.2 this.2⟩
theorem rc0 {i : Nat} (h : i = 9 ∨ i = 10 ∨ i = 11 ∨ i = 12 ∨ i = 13 ∨ i = 14 ∨ i = 15 ∨ i = 17 ∨ i = 23) : rCell 0 i := Or.inl ⟨rfl, h⟩
def upL (rd : Nat → Nat → Int32) (h : zH) (p : Nat) : Nat → Nat → Nat → Int32
  | 0 => rd
  | b + 1 => upX (upL rd h p b) (25 + b) 8 (fun i => hv h (p + (25 + b)) i)
theorem upL_o (rd : Nat → Nat → Int32) (h : zH) (p : Nat) {d : Nat} (hd : d < 25) (i : Nat) : ∀ b, upL rd h p b d i = rd d i
  | 0 => rfl
  | b + 1 => by
    show (if d = 25 + b ∧ i < 8 then _ else upL rd h p b d i) = _
    rw [if_neg (fun y => by omega), upL_o rd h p hd i b]
theorem upL_i (rd : Nat → Nat → Int32) (h : zH) (p : Nat) {a i : Nat} (hi : i < 8) : ∀ b, a < b → upL rd h p b (25 + a) i = hv h (p + (25 + a)) i
  | 0 => fun y => absurd y (Nat.not_lt_zero _)
  | b + 1 => fun y => by
    show (if 25 + a = 25 + b ∧ i < 8 then hv h (p + (25 + b)) i else upL rd h p b (25 + a) i) = _
    by_cases e : a = b
    · subst e
      rw [if_pos ⟨rfl, hi⟩]
    · rw [if_neg (fun z => by omega), upL_i rd h p hi b (by omega)]
theorem rm_take (c : RR T h' q rd) (s : sQ q h h') (cp : RC T h' p) (hpq : p + 29 ≤ q ∨ q + 29 ≤ p) : RM T q h (rAbs h' p) (F_X5_takeFrom_56 h' q p) := by
  have w := cp.2.2.1
  have lp := cp.2.1
  have s6 : (hv h' p 9).toNatClampNeg ≤ 60 := (nS_60 w).1
  have t8 : (hv h' p 17).toNatClampNeg ≤ 8 := nT_8 w
  have b4 : (hv h' p 23).toNatClampNeg ≤ 4 := nB_4 w
  have b0 : BR T q h' rd h' := ⟨c, sQ_r _ _⟩
  have b1 := br_put b0 hpq (i := 9) (rc0 (by omega))
  have b2 := br_put b1 hpq (i := 10) (rc0 (by omega))
  have b3 := br_put b2 hpq (i := 11) (rc0 (by omega))
  have b4' := br_put b3 hpq (i := 12) (rc0 (by omega))
  have b5 := br_put b4' hpq (i := 13) (rc0 (by omega))
  have b6 := br_put b5 hpq (i := 14) (rc0 (by omega))
  have b7 := br_put b6 hpq (i := 15) (rc0 (by omega))
  have b8 := br_over b7 hpq (o := 16) (d := 17) (n := 61) (Or.inl ⟨rfl, rfl⟩) (rl16 lp) rl16
  have b9 := br_put b8 hpq (i := 17) (rc0 (by omega))
  have b10 := br_over b9 hpq (o := 18) (d := 18) (n := 8) (Or.inr (Or.inl ⟨rfl, rfl⟩)) (rl18 lp) rl18
  have b11 := br_over b10 hpq (o := 19) (d := 19) (n := 8) (Or.inr (Or.inr (Or.inl ⟨rfl, rfl⟩))) (rl19 lp) rl19
  have b12 := br_over b11 hpq (o := 20) (d := 20) (n := 8) (Or.inr (Or.inr (Or.inr (Or.inl ⟨rfl, rfl⟩)))) (rl20 lp) rl20
  have b13 := br_over b12 hpq (o := 21) (d := 21) (n := 8) (Or.inr (Or.inr (Or.inr (Or.inr (Or.inl ⟨rfl, rfl⟩))))) (rl21 lp) rl21
  have b14 := br_over b13 hpq (o := 22) (d := 22) (n := 8) (Or.inr (Or.inr (Or.inr (Or.inr (Or.inr (Or.inl ⟨rfl, rfl⟩)))))) (rl22 lp) rl22
  have b15 := br_put b14 hpq (i := 23) (rc0 (by omega))
  have b16 := br_over b15 hpq (o := 24) (d := 23) (n := 4) (Or.inr (Or.inr (Or.inr (Or.inr (Or.inr (Or.inr (Or.inl ⟨rfl, rfl⟩))))))) (rl24 lp) rl24
  have key : F_X5_takeFrom_56 h' q p = fx (B_X5_takeFrom_56_151 q p) [] ((0 : Int32), _) := rfl
  rw [key]
  have e4 : (4 : Int32).toInt = 4 := rfl
  refine fx_forI (F := B_X5_takeFrom_56_151 q p) (d := []) (fun j (x : Int32 × zH) => x.1 = nI j ∧ BR T q h' (upL _ h' p j) x.2) (fun r => RM T q h (rAbs h' p) r) 4 (fun x hx => ?_) (fun j x hj hx => ?_) ⟨rfl, b16⟩
  · obtain ⟨x1, x2⟩ := x
    obtain ⟨e, g⟩ := hx
    have e : x1 = nI 4 := e
    subst e
    refine ⟨x2, ?_, ?_⟩
    · unfold B_X5_takeFrom_56_151
      exact if_neg (show ¬ nI 4 < (4 : Int32) by decide)
    · refine ⟨_, g.1, fun i hi => ?_, ?_, sQ_t s g.2⟩
      · rw [upL_o _ _ _ (by decide)]
        simpa [upX, upR, hi] using cp.2.2.2 i hi
      · rw [rAbs_mk]
        refine mkR_congr s6 t8 b4 (fun i hi => ?_) (fun i hi => ?_) (fun d i h1 h5 h8 => ?_) (fun i hi => ?_) (fun b i hb hi => upL_i _ _ _ hi 4 hb)
        · rw [upL_o _ _ _ (by decide)]
          rcases hi with rfl | rfl | rfl | rfl | rfl | rfl | rfl | rfl | rfl <;> rfl
        · rw [upL_o _ _ _ (by decide)]
          simp [upX, upR, hi]
        · rw [upL_o _ _ _ (by omega)]
          have hd : d = 18 ∨ d = 19 ∨ d = 20 ∨ d = 21 ∨ d = 22 := by omega
          rcases hd with rfl | rfl | rfl | rfl | rfl <;> simp [upX, upR, h8]
        · rw [upL_o _ _ _ (by decide)]
          simp [upX, upR, hi]
  · obtain ⟨x1, x2⟩ := x
    obtain ⟨e, g⟩ := hx
    have e : x1 = nI j := e
    subst e
    have g1 := g.1
    have g1 : RR T x2 q _ := g1
    have g2 : sQ q h' x2 := g.2
    have a1 : hr x2 p 25 = p + 24 := (hr_eq (sQ_sO g2 p 25 (by omega))).trans (rl25 lp)
    have a2 : hr x2 (p + 24) j = p + (25 + j) := by
      rw [hr_eq (sQ_sO g2 (p + 24) j (by omega)), (lp.2.2 j hj).1]
      omega
    have a3 : hr x2 (q + 24) j = q + (25 + j) := by
      rw [(g1.2.1.2.2 j hj).1]
      omega
    have g3 := RR_over g1 (d := 25 + j) (n := 8) (Or.inr (Or.inr (Or.inr (Or.inr (Or.inr (Or.inr (Or.inr ⟨j, hj, rfl, rfl⟩))))))) (p := p + (25 + j)) (by omega)
    have ef : (fun i => hv x2 (p + (25 + j)) i) = (fun i => hv h' (p + (25 + j)) i) := by
      funext i
      exact hv_eq (sQ_sO g2 _ i (by omega))
    rw [ef] at g3
    refine Or.inr ⟨(nI (j + 1), fx (gov (nI 8) (p + (25 + j)) (q + (25 + j))) [] ((0 : Int32), x2)), ?_, rfl, g3.1, sQ_t g2 g3.2⟩
    unfold B_X5_takeFrom_56_151
    simp only [letf]
    rw [if_pos (by rw [i_lt, e4, nI_t (by omega)]; omega), nI_c (by omega), a1, rl25 g1.2.1, a2, a3, nI_s]
    rfl
theorem take_65 (h : zH) (q p : Nat) : F_X5_takeFrom_65 h q p = F_X5_takeFrom_56 h q p := rfl
end
