section
variable {T : List Nat} {h h' h'' : zH} {B : Nat → Int32} {n e : Nat} {S S' : ST} {D : Nat → Int32}
/-- the class, while it reads -/
def frC (h h' : zH) : Prop := ∀ m i, (m < 17 ∨ 25 ≤ m) → ¬ (m = 29 ∧ 2 ≤ i ∧ i ≤ 5) → hget h' m i = hget h m i
def CQ (T : List Nat) (h : zH) (B : Nat → Int32) (n : Nat) (h' : zH) : Prop := CC T h' 17 ∧ tpC B n h' ∧ frC h h' ∧ T[29]? = some 2
def CP (T : List Nat) (h : zH) (B : Nat → Int32) (n : Nat) (S : ST) (e : Nat) (h' : zH) : Prop := CQ T h B n h' ∧ cAbs h' 17 = S ∧ e ≤ n ∧ hv h' 29 2 = nI (lxK B n e) ∧ hv h' 29 3 = nI (lxS B n e) ∧ hv h' 29 4 = nI (lxE B n e) ∧ hv h' 29 5 = lxV B n e
theorem cp_w (c : CP T h B n S e h') : WF S := c.2.1 ▸ c.1.1.2.2.1
theorem cp_of {a b d : Int32} (c : CQ T h B n h') (hS : cAbs h' 17 = S) (he : e ≤ n) (p : TPc T h' a b (nI e) d h'') : CP T h B n S e (F_X2_step h'' 29) := by
  obtain ⟨c1, c2, c3, c4⟩ := c
  obtain ⟨q1, q2, q3, q4, q5, q6⟩ := c_step c4 c2 he p
  obtain ⟨k1, k2⟩ := CC_same c1 q1 (tExt_rf T) (fun d i hd => q2 (17 + d) i (by omega))
  exact ⟨⟨k1, tpC_eq c2 q2, fun m i h1 h2 => (q2 m i h2).trans (c3 m i h1 h2), c4⟩, k2.trans hS, he, q3, q4, q5, q6⟩
theorem cp_step (c : CP T h B n S e h') : CP T h B n S (lxE B n e) (F_X2_step h' 29) := cp_of c.1 c.2.1 (lxE_b c.2.2.1).2 (a := hv h' 29 2) (b := hv h' 29 3) (d := hv h' 29 5) ⟨c.1.1.1, fun _ _ _ => rfl, rfl, rfl, c.2.2.2.2.2.1, rfl⟩
theorem cp_cm (c : CP T h B n S e h') (m : CM T 17 h' S' h'') (w : WF S') : CP T h B n S' e h'' := by
  obtain ⟨⟨c1, c2, c3, c4⟩, c5, c6, c7, c8, c9, c10⟩ := c
  obtain ⟨k1, k2, k3⟩ := CM_CC m w
  have f : ∀ i, hv h'' 29 i = hv h' 29 i := fun i => hv_eq (k3 29 i (by decide))
  exact ⟨⟨k1, ⟨(hr_eq (k3 29 0 (by decide))).trans c2.1, (f 1).trans c2.2.1, c2.2.2.1, fun i hi => (hv_eq (k3 30 i (by decide))).trans (c2.2.2.2 i hi)⟩, fun m i h1 h2 => (k3 m i (by omega)).trans (c3 m i h1 h2), c4⟩, k2, c6, (f 2).trans c7, (f 3).trans c8, (f 4).trans c9, (f 5).trans c10⟩
theorem cp_M (c : CP T h B n S e h') : CM T 17 h' S h' := by
  have := CM_of c.1.1
  rw [c.2.1] at this
  exact this
theorem cp_word (c : CP T h B n S e h') {k : Nat} (hk : k < 8) : (F_X2_isWord h' 29 (1000000 + k) = 1 ∧ isW B n e (1000000 + k)) ∨ (F_X2_isWord h' 29 (1000000 + k) = 0 ∧ ¬ isW B n e (1000000 + k)) := c_isWord c.1.2.1 c.2.2.1 c.2.2.2.1 c.2.2.2.2.1 c.2.2.2.2.2.1 hk
/-- a number that is looked for -/
def okV (B : Nat → Int32) (n e : Nat) (lo hi : Int32) : Prop := lxK B n e = 2 ∧ lxL B n e ≤ 4 ∧ lo.toInt ≤ (lxN B n e).toInt ∧ (lxN B n e).toInt ≤ hi.toInt
theorem c_readN (c : CP T h B n S e h') {lo hi : Int32} (h0 : 0 ≤ lo.toInt) : CP T h B n S (lxE B n e) (F_X2_readNumber h' 29 lo hi).2 ∧ (((F_X2_readNumber h' 29 lo hi).1 = 1 ∧ okV B n (lxE B n e) lo hi ∧ hv (F_X2_readNumber h' 29 lo hi).2 29 5 = lxN B n (lxE B n e)) ∨ ((F_X2_readNumber h' 29 lo hi).1 = 0 ∧ ¬ okV B n (lxE B n e) lo hi)) := by
  have c1 := cp_step c
  generalize lxE B n e = e1 at c1 ⊢
  obtain ⟨-, -, he, q2, q3, q4, q5⟩ := id c1
  have kb := lxK_b (B := B) (n := n) (e := e1)
  have k2 : nI (lxK B n e1) = (2 : Int32) ↔ lxK B n e1 = 2 := nIeq (b := 2) (by omega) (by decide)
  unfold F_X2_readNumber
  simp only [letf]
  rw [q2, q5]
  by_cases y : lxK B n e1 = 2
  · rw [if_pos (k2.mpr y)]
    by_cases z : lxL B n e1 ≤ 4
    · have eV : lxV B n e1 = lxN B n e1 := if_pos ⟨y, z⟩
      rw [eV]
      have q5 : hv (F_X2_step h' 29) 29 5 = lxN B n e1 := q5.trans eV
      have ew := F_isWithin_eq (lxN B n e1) lo hi
      by_cases w : lo.toInt ≤ (lxN B n e1).toInt ∧ (lxN B n e1).toInt ≤ hi.toInt
      · rw [if_pos w] at ew
        have m1 : ¬ lxN B n e1 = -1 := fun q => by
          have q' := congrArg Int32.toInt q
          have : (-1 : Int32).toInt = -1 := rfl
          omega
        rw [if_neg m1, ew, if_neg t10]
        exact ⟨c1, Or.inl ⟨rfl, ⟨y, z, w⟩, q5⟩⟩
      · rw [if_neg w] at ew
        by_cases m1 : lxN B n e1 = -1
        · rw [if_pos m1]
          exact ⟨c1, Or.inr ⟨rfl, fun q => w q.2.2⟩⟩
        · rw [if_neg m1, ew, if_pos rfl]
          exact ⟨c1, Or.inr ⟨rfl, fun q => w q.2.2⟩⟩
    · have eV : lxV B n e1 = -1 := if_neg (fun q => z q.2)
      rw [eV, if_pos rfl]
      exact ⟨c1, Or.inr ⟨rfl, fun q => z q.2.1⟩⟩
  · rw [if_neg (fun q => y (k2.mp q))]
    exact ⟨c1, Or.inr ⟨rfl, fun q => y q.1⟩⟩
/-- the reference, while it reads -/
def frR (h h' : zH) : Prop := ∀ m i, ¬ (∃ d, m = 49 + d ∧ rCell d i) → ¬ (m = 49 ∧ 28 ≤ i ∧ i ≤ 32) → m ≠ 78 → hget h' m i = hget h m i
def RQ (T : List Nat) (h : zH) (B : Nat → Int32) (n : Nat) (S : ST) (D : Nat → Int32) (h' : zH) : Prop := hOK kty T h' ∧ rNP h' S ∧ tpR B n h' ∧ frR h h' ∧ hr h' 49 33 = 78 ∧ (∀ i, i < 3 → hv h' 78 i = D i) ∧ tExt zT0 T
def RP (T : List Nat) (h : zH) (B : Nat → Int32) (n : Nat) (S : ST) (e : Nat) (D : Nat → Int32) (h' : zH) : Prop := RQ T h B n S D h' ∧ e ≤ n ∧ hv h' 49 28 = nI (lxE B n e) ∧ hv h' 49 29 = nI (lxR B n e) ∧ hv h' 49 30 = nI (lxS B n e) ∧ hv h' 49 31 = lxG B n e
def RW (T : List Nat) (h : zH) (B : Nat → Int32) (n f : Nat) (h' : zH) : Prop := (∃ S D, RQ T h B n S D h') ∧ hv h' 49 32 = nI f
theorem rq_rc (c : RQ T h B n S D h') : RC T h' 49 := ⟨c.1, rlay_49 c.2.2.2.2.2.2 c.2.1.1, by rw [c.2.1.2.1]; exact c.2.1.2.2.1, c.2.1.2.2.2⟩
theorem rq_m (c : RQ T h B n S D h') : RM T 49 h' S h' := by
  have := RM_of (rq_rc c)
  rw [c.2.1.2.1] at this
  exact this
/-- one of the reading's own slots written -/
theorem rq_put (c : RQ T h B n S D h') {i : Nat} (h1 : 28 ≤ i) (h2 : i ≤ 32) (x : Int32) : RQ T h B n S D (hput h' 49 i (.inl (.int x))) := by
  obtain ⟨c1, c2, c3, c4, c5, c6, c7⟩ := c
  have ht : T[49]? = some 5 := c7 _ _ rfl
  have k0 : ((zty 5).2.2 i).1 = 0 := by
    have hi : i = 28 ∨ i = 29 ∨ i = 30 ∨ i = 31 ∨ i = 32 := by omega
    rcases hi with rfl | rfl | rfl | rfl | rfl <;> rfl
  have f : ∀ m j, ¬ (m = 49 ∧ j = i) → hget (hput h' 49 i (.inl (.int x))) m j = hget h' m j := fun m j hn => hget_put_ne (by omega)
  refine ⟨k_put c1 ht k0 x, rNP_eq (fun m j a b => f m j (fun y => by have := a y.1; omega)) c2, ⟨(hr_eq (f 49 6 (by omega))).trans c3.1, (hv_eq (f 49 7 (by omega))).trans c3.2.1, c3.2.2.1, fun j hj => (hv_eq (f 64 j (by omega))).trans (c3.2.2.2 j hj)⟩, fun m j a b d => (f m j (fun y => b ⟨y.1, by omega, by omega⟩)).trans (c4 m j a b d), (hr_eq (f 49 33 (by omega))).trans c5, fun j hj => (hv_eq (f 78 j (by omega))).trans (c6 j hj), c7⟩
def upD (D : Nat → Int32) (i : Nat) (x : Int32) : Nat → Int32 := fun j => if j = i then x else D j
theorem rp_told (c : RP T h B n S e D h') {i : Nat} (hi : i < 3) (x : Int32) : RP T h B n S e (upD D i x) (hput h' 78 i (.inl (.int x))) := by
  obtain ⟨⟨c1, c2, c3, c4, c5, c6, c7⟩, d1, d2, d3, d4, d5⟩ := c
  have ht : T[78]? = some 40 := c7 _ _ rfl
  have g := k_int c1 ht (i := i) hi rfl
  have f : ∀ m j, m ≠ 78 → hget (hput h' 78 i (.inl (.int x))) m j = hget h' m j := fun m j hn => hget_put_ne (Or.inl hn)
  have v : ∀ j, hv (hput h' 78 i (.inl (.int x))) 49 j = hv h' 49 j := fun j => hv_eq (f 49 j (by decide))
  refine ⟨⟨k_put c1 ht rfl x, rNP_eq (fun m j a b => f m j (by omega)) c2, ⟨(hr_eq (f 49 6 (by decide))).trans c3.1, (v 7).trans c3.2.1, c3.2.2.1, fun j hj => (hv_eq (f 64 j (by decide))).trans (c3.2.2.2 j hj)⟩, fun m j a b d => (f m j d).trans (c4 m j a b d), (hr_eq (f 49 33 (by decide))).trans c5, fun j hj => ?_, c7⟩, d1, (v 28).trans d2, (v 29).trans d3, (v 30).trans d4, (v 31).trans d5⟩
  unfold upD
  by_cases y : j = i
  · rw [if_pos y, y, hv_put g]
  · rw [if_neg y, hv_ne (Or.inr y)]
    exact c6 j hj
theorem rp_of {b c d : Int32} (q : RQ T h B n S D h') (he : e ≤ n) (p : TPr T h' (nI e) b c d h'') : RP T h B n S e D (F_X5_look h'' 49) := by
  obtain ⟨c1, c2, c3, c4, c5, c6, c7⟩ := q
  obtain ⟨q1, q2, q3, q4, q5, q6⟩ := r_look (c7 _ _ rfl) c3 he p
  exact ⟨⟨q1, rNP_eq (fun m j a b => q2 m j (fun y => by have := a y.1; omega)) c2, tpR_eq c3 q2, fun m j a b d => (q2 m j (fun y => b ⟨y.1, by omega, by omega⟩)).trans (c4 m j a b d), (hr_eq (q2 49 33 (by omega))).trans c5, fun j hj => (hv_eq (q2 78 j (by omega))).trans (c6 j hj), c7⟩, he, q3, q4, q5, q6⟩
theorem rp_look (c : RP T h B n S e D h') : RP T h B n S (lxE B n e) D (F_X5_look h' 49) := rp_of c.1 (lxE_b c.2.1).2 (b := hv h' 49 29) (c := hv h' 49 30) (d := hv h' 49 31) ⟨c.1.1, fun _ _ _ => rfl, c.2.2.1, rfl, rfl, rfl⟩
theorem rp_rm (c : RP T h B n S e D h') (m : RM T 49 h' S' h'') (w : WF S') : RP T h B n S' e D h'' := by
  obtain ⟨⟨c1, c2, c3, c4, c5, c6, c7⟩, d1, d2, d3, d4, d5⟩ := c
  obtain ⟨k1, k2, k3⟩ := RM_RC m w
  have v : ∀ i, 28 ≤ i → hv h'' 49 i = hv h' 49 i := fun i hi => hv_eq (sQ_at k3 (by omega) (by omega))
  refine ⟨⟨k1.1, ⟨⟨fun o ho => (k1.2.1.2.1 o ho).1, fun b hb => (k1.2.1.2.2 b hb).1⟩, k2, w, k1.2.2.2⟩, ⟨(hr_eq (sQ_at k3 (by omega) (by omega))).trans c3.1, (hv_eq (sQ_at k3 (by omega) (by omega))).trans c3.2.1, c3.2.2.1, fun j hj => (hv_eq (sQ_at k3 (by omega) (by omega))).trans (c3.2.2.2 j hj)⟩, fun m j a b d => (k3 m j a).trans (c4 m j a b d), (hr_eq (sQ_at k3 (by omega) (by omega))).trans c5, fun j hj => (hv_eq (sQ_at k3 (by omega) (by omega))).trans (c6 j hj), c7⟩, d1, (v 28 (by decide)).trans d2, (v 29 (by decide)).trans d3, (v 30 (by decide)).trans d4, (v 31 (by decide)).trans d5⟩
theorem rp_word (c : RP T h B n S e D h') {k : Nat} (hk : k < 8) : (F_X5_isWord h' 49 (1000000 + k) = 1 ∧ isW B n e (1000000 + k)) ∨ (F_X5_isWord h' 49 (1000000 + k) = 0 ∧ ¬ isW B n e (1000000 + k)) := r_isWord c.1.2.2.1 c.2.1 c.2.2.2.1 c.2.2.2.2.1 c.2.2.1 hk
theorem r_wr (c : RP T h B n S e D h') : ∃ r, F_X5_wrong h' 49 = (0, r) ∧ RW T h B n (lxS B n e) r := by
  refine ⟨_, rfl, ⟨S, D, ?_⟩, ?_⟩
  · exact rq_put c.1 (by decide) (by decide) _
  · have g := k_int c.1.1 (c.1.2.2.2.2.2.2 49 5 rfl) (i := 32) (by decide) rfl
    show hv (hput h' 49 32 _) 49 32 = _
    rw [hv_put g]
    exact c.2.2.2.2.1
theorem lxR_i {B : Nat → Int32} {n e : Nat} : (nI (lxR B n e) = (2 : Int32) ↔ lxK B n e = 2) ∧ (nI (lxR B n e) = (0 : Int32) ↔ lxK B n e = 0) ∧ (nI (lxR B n e) = (3 : Int32) ↔ lxK B n e = 3) := by
  have kb := lxK_b (B := B) (n := n) (e := e)
  have : lxR B n e ≤ 5 := by
    unfold lxR
    split <;> omega
  have key : ∀ k, k < 4 → (nI (lxR B n e) = nI k ↔ lxK B n e = k) := fun k hk => by
    rw [nIeq (by omega) (by omega)]
    unfold lxR
    by_cases y : 4 ≤ lxK B n e
    · rw [if_pos y]
      omega
    · rw [if_neg y]
  exact ⟨key 2 (by decide), key 0 (by decide), key 3 (by decide)⟩
theorem r_num (c : RP T h B n S e D h') {i : Nat} (hi3 : i < 3) {lo hi : Int32} (h9 : hi.toInt ≤ 9999) : (∃ r, F_X5_number h' 49 (nI i) lo hi = (1, r) ∧ okV B n e lo hi ∧ RP T h B n S (lxE B n e) (upD D i (lxN B n e)) r) ∨ ∃ r, F_X5_number h' 49 (nI i) lo hi = (0, r) ∧ ¬ okV B n e lo hi ∧ RW T h B n (lxS B n e) r := by
  obtain ⟨q, he, p1, p2, p3, p4⟩ := id c
  obtain ⟨r, w1, w2⟩ := r_wr c
  unfold F_X5_number
  simp only [letf]
  rw [p2, p4, q.2.2.2.2.1, w1, F_in_eq, i2l, i2l, i2l, nI_c (by omega)]
  by_cases y : lxK B n e = 2
  · rw [if_pos (lxR_i.1.mpr y)]
    by_cases z : lxL B n e ≤ 4
    · have eG : lxG B n e = lxN B n e := (if_pos y).trans (if_pos z)
      rw [eG]
      by_cases w : lo.toInt ≤ (lxN B n e).toInt ∧ (lxN B n e).toInt ≤ hi.toInt
      · rw [if_pos w, if_neg t10]
        exact Or.inl ⟨_, rfl, ⟨y, z, w⟩, rp_look (rp_told c hi3 _)⟩
      · rw [if_neg w, if_pos rfl]
        exact Or.inr ⟨_, rfl, fun q => w q.2.2, w2⟩
    · have eG : lxG B n e = 100000 := (if_pos y).trans (if_neg z)
      have nw : ¬ (lo.toInt ≤ (100000 : Int32).toInt ∧ (100000 : Int32).toInt ≤ hi.toInt) := fun w => by
        have w1 := w.2
        rw [show (100000 : Int32).toInt = 100000 from rfl] at w1
        omega
      rw [eG, if_neg nw, if_pos rfl]
      exact Or.inr ⟨_, rfl, fun q => z q.2.1, w2⟩
  · rw [if_neg (fun q => y (lxR_i.1.mp q))]
    exact Or.inr ⟨_, rfl, fun q => y q.1, w2⟩
theorem r_tell (c : RP T h B n S e D h') {lo hi : Int32} (h9 : hi.toInt ≤ 9999) : (∃ r, F_X5_tells h' 49 lo hi = (1, r) ∧ okV B n (lxE B n e) lo hi ∧ RP T h B n S (lxE B n (lxE B n e)) (upD D 0 (lxN B n (lxE B n e))) r) ∨ ∃ r, F_X5_tells h' 49 lo hi = (0, r) ∧ ¬ okV B n (lxE B n e) lo hi ∧ RW T h B n (lxS B n (lxE B n e)) r := by
  unfold F_X5_tells
  simp only [letf]
  rcases r_num (rp_look c) (i := 0) (by decide) (lo := lo) h9 with ⟨r, a, b⟩ | ⟨r, a, b⟩
  · exact Or.inl ⟨r, a, b⟩
  · exact Or.inr ⟨r, a, b⟩
end
