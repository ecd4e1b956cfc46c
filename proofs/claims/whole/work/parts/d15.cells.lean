/-- what another keeps stays -/
def sO (q w : Nat) (h h' : zH) : Prop := ∀ n i, (n < q ∨ q + w ≤ n) → hget h' n i = hget h n i
theorem sO_r (q w : Nat) (h : zH) : sO q w h h := fun _ _ _ => rfl
theorem sO_t {q w : Nat} {h h' h'' : zH} (a : sO q w h h') (b : sO q w h' h'') : sO q w h h'' := fun n i e => (b n i e).trans (a n i e)
theorem sO_put {q w d i : Nat} {h : zH} {v : zV} (hd : d < w) : sO q w h (hput h (q + d) i v) := fun n j e => hget_put_ne (Or.inl (by omega))
/-- the class's cells -/
def CR (T : List Nat) (h : zH) (q : Nat) (rd : Nat → Nat → Int32) (jj : Int64) : Prop := hOK kty T h ∧ CLay T h q ∧ (fun d i => hv h (q + d) i) = rd ∧ hJ h q 7 = jj
def cI (rd : Nat → Nat → Int32) (jj : Int64) : Prop := (∀ i, i < 64 → (i = 0 ∨ (rd 0 0).toNatClampNeg < i) → nb (jN jj) i = 0) ∧ ∀ i, i < 32 → ¬ (i % 8 < (rd 0 8).toNatClampNeg ∧ i / 8 < (rd 0 14).toNatClampNeg) → rd 7 i = 0
def cCell (d i : Nat) : Prop := (d = 0 ∧ (i = 0 ∨ i = 1 ∨ i = 2 ∨ i = 3 ∨ i = 4 ∨ i = 5 ∨ i = 6 ∨ i = 8 ∨ i = 14)) ∨ (d = 1 ∧ i < 8) ∨ (d = 2 ∧ i < 8) ∨ (d = 3 ∧ i < 8) ∨ (d = 4 ∧ i < 8) ∨ (d = 5 ∧ i < 8) ∨ (d = 6 ∧ i < 4) ∨ (d = 7 ∧ i < 32)
section
variable {T : List Nat} {h : zH} {q : Nat} {rd : Nat → Nat → Int32} {jj : Int64}
theorem CC_CR (c : CC T h q) : CR T h q (fun d i => hv h (q + d) i) (hJ h q 7) := ⟨c.1, c.2.1, rfl, rfl⟩
theorem CC_cI (c : CC T h q) : cI (fun d i => hv h (q + d) i) (hJ h q 7) := c.2.2.2
theorem CR_abs (c : CR T h q rd jj) : cAbs h q = mkC rd jj := by
  rw [cAbs_mk, c.2.2.1, c.2.2.2]
theorem CR_CC (c : CR T h q rd jj) (w : WF (mkC rd jj)) (k : cI rd jj) : CC T h q := by
  refine ⟨c.1, c.2.1, ?_, ?_⟩
  · rw [CR_abs c]
    exact w
  · obtain ⟨-, -, rfl, rfl⟩ := c
    exact k
theorem CR_rd (c : CR T h q rd jj) (d i : Nat) : hv h (q + d) i = rd d i := congrFun (congrFun c.2.2.1 d) i
theorem CR_0 (c : CR T h q rd jj) (i : Nat) : hv h q i = rd 0 i := CR_rd c 0 i
theorem CLay_put {d i : Nat} {v : zV} (c : CLay T h q) (hd : d ≠ 0 ∨ i < 9 ∨ i = 14) : CLay T (hput h (q + d) i v) q := ⟨c.1, fun o ho => ⟨by
  rw [hr_ne ?_]
  · exact (c.2 o ho).1
  · rcases hd with e | e | e
    · exact Or.inl (by omega)
    · refine Or.inr (fun y => ?_)
      have : ∀ o ∈ cOff, 9 ≤ o.1 := by decide
      have := this o ho
      omega
    · refine Or.inr (fun y => ?_)
      have : ∀ o ∈ cOff, o.1 ≠ 14 := by decide
      exact this o ho (y.trans e), (c.2 o ho).2⟩⟩
theorem CR_cell (c : CR T h q rd jj) {d i : Nat} (hc : cCell d i) : ∃ τ, T[q + d]? = some τ ∧ i < (zty τ).2.1 ∧ ((zty τ).2.2 i).1 = 0 ∧ (d ≠ 0 ∨ i < 9 ∨ i = 14) := by
  have l := c.2.1
  rcases hc with ⟨rfl, e⟩ | ⟨rfl, e⟩ | ⟨rfl, e⟩ | ⟨rfl, e⟩ | ⟨rfl, e⟩ | ⟨rfl, e⟩ | ⟨rfl, e⟩ | ⟨rfl, e⟩
  · refine ⟨1, l.1, ?_, ?_, Or.inr (by omega)⟩
    · show i < 17
      omega
    · rcases e with rfl | rfl | rfl | rfl | rfl | rfl | rfl | rfl | rfl <;> rfl
  · exact ⟨11, (l.2 (9, 1, 11) (by decide)).2, e, rfl, Or.inl (by decide)⟩
  · exact ⟨12, (l.2 (10, 2, 12) (by decide)).2, e, rfl, Or.inl (by decide)⟩
  · exact ⟨13, (l.2 (11, 3, 13) (by decide)).2, e, rfl, Or.inl (by decide)⟩
  · exact ⟨14, (l.2 (12, 4, 14) (by decide)).2, e, rfl, Or.inl (by decide)⟩
  · exact ⟨15, (l.2 (13, 5, 15) (by decide)).2, e, rfl, Or.inl (by decide)⟩
  · exact ⟨16, (l.2 (15, 6, 16) (by decide)).2, e, rfl, Or.inl (by decide)⟩
  · exact ⟨17, (l.2 (16, 7, 17) (by decide)).2, e, rfl, Or.inl (by decide)⟩
theorem CR_put (c : CR T h q rd jj) {d i : Nat} {x : Int32} (hc : cCell d i) : CR T (hput h (q + d) i (.inl (.int x))) q (upR rd d i x) jj := by
  obtain ⟨τ, ht, hi, hk, hd⟩ := CR_cell c hc
  refine ⟨k_put c.1 ht hk x, CLay_put c.2.1 hd, ?_, ?_⟩
  · obtain ⟨w, hw, -⟩ := hOK_get c.1 ht hi
    rw [rd_put hw, c.2.2.1]
  · rw [hJ_ne ?_]
    · exact c.2.2.2
    · rcases hc with ⟨rfl, e⟩ | ⟨rfl, -⟩ | ⟨rfl, -⟩ | ⟨rfl, -⟩ | ⟨rfl, -⟩ | ⟨rfl, -⟩ | ⟨rfl, -⟩ | ⟨rfl, -⟩ <;> omega
theorem CR_putJ (c : CR T h q rd jj) {x : Int64} : CR T (hput h q 7 (.inl (.long x))) q rd x := by
  obtain ⟨w, hw, -⟩ := hOK_get c.1 c.2.1.1 (i := 7) (by decide)
  refine ⟨k_putL c.1 c.2.1.1 rfl x, ?_, ?_, hJ_put hw⟩
  · exact CLay_put (d := 0) c.2.1 (by omega)
  · funext d i
    rw [← CR_rd c d i]
    have key : hv (hput h q 7 (.inl (.long x))) q 7 = hv h q 7 := by
      have a : hget (hput h q 7 (.inl (.long x))) q 7 = some (.inl (.long x)) := hget_put hw
      have b := k_lng c.1 c.2.1.1 (i := 7) (by decide) rfl
      unfold hv
      rw [a, b]
    by_cases e : q + d = q ∧ i = 7
    · rw [e.1, e.2]
      exact key
    · exact hv_ne (by omega)
end
/-- the reference's cells -/
def RR (T : List Nat) (h : zH) (q : Nat) (rd : Nat → Nat → Int32) : Prop := hOK kty T h ∧ RLay T h q ∧ (fun d i => hv h (q + d) i) = rd
def rI (rd : Nat → Nat → Int32) : Prop := ∀ i, i < 61 → rd 17 i = 0 ∨ rd 17 i = 1
def rCell (d i : Nat) : Prop := (d = 0 ∧ (i = 9 ∨ i = 10 ∨ i = 11 ∨ i = 12 ∨ i = 13 ∨ i = 14 ∨ i = 15 ∨ i = 17 ∨ i = 23)) ∨ (d = 17 ∧ i < 61) ∨ (d = 18 ∧ i < 8) ∨ (d = 19 ∧ i < 8) ∨ (d = 20 ∧ i < 8) ∨ (d = 21 ∧ i < 8) ∨ (d = 22 ∧ i < 8) ∨ (d = 23 ∧ i < 4) ∨ (∃ b, b < 4 ∧ d = 25 + b ∧ i < 8)
section
variable {T : List Nat} {h : zH} {q : Nat} {rd : Nat → Nat → Int32}
theorem RC_RR (c : RC T h q) : RR T h q (fun d i => hv h (q + d) i) := ⟨c.1, c.2.1, rfl⟩
theorem RC_rI (c : RC T h q) : rI (fun d i => hv h (q + d) i) := c.2.2.2
theorem RR_abs (c : RR T h q rd) : rAbs h q = mkR rd := by
  rw [rAbs_mk, c.2.2]
theorem RR_RC (c : RR T h q rd) (w : WF (mkR rd)) (k : rI rd) : RC T h q := by
  refine ⟨c.1, c.2.1, ?_, ?_⟩
  · rw [RR_abs c]
    exact w
  · obtain ⟨-, -, rfl⟩ := c
    exact k
theorem RR_rd (c : RR T h q rd) (d i : Nat) : hv h (q + d) i = rd d i := congrFun (congrFun c.2.2 d) i
theorem RR_0 (c : RR T h q rd) (i : Nat) : hv h q i = rd 0 i := RR_rd c 0 i
theorem RLay_put {d i : Nat} {v : zV} (c : RLay T h q) (hd : (d ≠ 0 ∧ d ≠ 24) ∨ (d = 0 ∧ (i < 16 ∨ i = 17 ∨ i = 23))) : RLay T (hput h (q + d) i v) q := ⟨c.1, fun o ho => ⟨by
  rw [hr_ne ?_]
  · exact (c.2.1 o ho).1
  · rcases hd with e | ⟨-, e⟩
    · exact Or.inl (by omega)
    · refine Or.inr (fun y => ?_)
      have : ∀ o ∈ rOff, ¬ (o.1 < 16 ∨ o.1 = 17 ∨ o.1 = 23) := by decide
      exact this o ho (y ▸ e), (c.2.1 o ho).2⟩, fun b hb => ⟨by
  rw [hr_ne (Or.inl (by omega))]
  exact (c.2.2 b hb).1, (c.2.2 b hb).2⟩⟩
theorem RR_cell (c : RR T h q rd) {d i : Nat} (hc : rCell d i) : ∃ τ, T[q + d]? = some τ ∧ i < (zty τ).2.1 ∧ ((zty τ).2.2 i).1 = 0 ∧ ((d ≠ 0 ∧ d ≠ 24) ∨ (d = 0 ∧ (i < 16 ∨ i = 17 ∨ i = 23))) := by
  have l := c.2.1
  rcases hc with ⟨rfl, e⟩ | ⟨rfl, e⟩ | ⟨rfl, e⟩ | ⟨rfl, e⟩ | ⟨rfl, e⟩ | ⟨rfl, e⟩ | ⟨rfl, e⟩ | ⟨rfl, e⟩ | ⟨b, hb, rfl, e⟩
  · rcases l.1 with y | y
    · refine ⟨5, y, ?_, ?_, Or.inr ⟨rfl, by omega⟩⟩
      · show i < 41
        omega
      · rcases e with rfl | rfl | rfl | rfl | rfl | rfl | rfl | rfl | rfl <;> rfl
    · refine ⟨6, y, ?_, ?_, Or.inr ⟨rfl, by omega⟩⟩
      · show i < 41
        omega
      · rcases e with rfl | rfl | rfl | rfl | rfl | rfl | rfl | rfl | rfl <;> rfl
  · exact ⟨31, (l.2.1 (16, 17, 31) (by decide)).2, e, rfl, Or.inl (by decide)⟩
  · exact ⟨32, (l.2.1 (18, 18, 32) (by decide)).2, e, rfl, Or.inl (by decide)⟩
  · exact ⟨33, (l.2.1 (19, 19, 33) (by decide)).2, e, rfl, Or.inl (by decide)⟩
  · exact ⟨34, (l.2.1 (20, 20, 34) (by decide)).2, e, rfl, Or.inl (by decide)⟩
  · exact ⟨35, (l.2.1 (21, 21, 35) (by decide)).2, e, rfl, Or.inl (by decide)⟩
  · exact ⟨36, (l.2.1 (22, 22, 36) (by decide)).2, e, rfl, Or.inl (by decide)⟩
  · exact ⟨37, (l.2.1 (24, 23, 37) (by decide)).2, e, rfl, Or.inl (by decide)⟩
  · exact ⟨39, by rw [← Nat.add_assoc]; exact (l.2.2 b hb).2, e, rfl, Or.inl (by omega)⟩
theorem RR_put (c : RR T h q rd) {d i : Nat} {x : Int32} (hc : rCell d i) : RR T (hput h (q + d) i (.inl (.int x))) q (upR rd d i x) := by
  obtain ⟨τ, ht, hi, hk, hd⟩ := RR_cell c hc
  refine ⟨k_put c.1 ht hk x, RLay_put c.2.1 hd, ?_⟩
  obtain ⟨w, hw, -⟩ := hOK_get c.1 ht hi
  rw [rd_put hw, c.2.2]
end
/-- all but the cells of a stall that may be written -/
def sQ (q : Nat) (h h' : zH) : Prop := ∀ n i, ¬ (∃ d, n = q + d ∧ rCell d i) → hget h' n i = hget h n i
theorem sQ_r (q : Nat) (h : zH) : sQ q h h := fun _ _ _ => rfl
theorem sQ_t {q : Nat} {h h' h'' : zH} (a : sQ q h h') (b : sQ q h' h'') : sQ q h h'' := fun n i e => (b n i e).trans (a n i e)
theorem sQ_put {q d i : Nat} {h : zH} {v : zV} (hc : rCell d i) : sQ q h (hput h (q + d) i v) := fun n j e => hget_put_ne (by
  by_cases y : n = q + d
  · right
    intro z
    subst z
    exact e ⟨d, y, hc⟩
  · exact Or.inl y)
theorem rCell_b {d i : Nat} (hc : rCell d i) : d < 29 := by
  rcases hc with y | y | y | y | y | y | y | y | ⟨b, y⟩ <;> omega
theorem sQ_sO {q : Nat} {h h' : zH} (a : sQ q h h') : sO q 29 h h' := fun n i e => a n i (fun ⟨d, e1, hc⟩ => by
  have := rCell_b hc
  omega)
