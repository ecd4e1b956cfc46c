/-- the reference, piece by piece -/
def rLy (h : zH) (p : Nat) : Prop := (∀ o ∈ rOff, hr h p o.1 = p + o.2.1) ∧ ∀ b, b < 4 → hr h (p + 24) b = p + 25 + b
def rBt (h : zH) (p : Nat) : Prop := ∀ i, i < 61 → hv h (p + 17) i = 0 ∨ hv h (p + 17) i = 1
def r0P (h : zH) : Prop := (hr h 49 0 = 50 ∧ hr h 49 1 = 51 ∧ hr h 49 2 = 52 ∧ hr h 49 3 = 53 ∧ hr h 49 4 = 62 ∧ hr h 49 5 = 63 ∧ hr h 49 6 = 64 ∧ hr h 49 8 = 65 ∧ hr h 49 33 = 78) ∧ ∀ s, s < 8 → hr h 53 s = 54 + s
def rNP (h : zH) (N : ST) : Prop := rLy h 49 ∧ rAbs h 49 = N ∧ WF N ∧ rBt h 49
def rKP (h : zH) (K : Option ST) : Prop := (hget h 49 26 = some (.inl .null) ∧ K = none) ∨ ∃ (p : Nat) (S : ST), hget h 49 26 = some (.inl (.ref p)) ∧ 79 ≤ p ∧ K = some S ∧ rLy h p ∧ rAbs h p = S ∧ WF S ∧ rBt h p
def rXP (h : zH) : Prop := (hget h 49 27 = some (.inl .null) ∨ ∃ p : Nat, hget h 49 27 = some (.inl (.ref p)) ∧ 79 ≤ p ∧ rLy h p ∧ hget h 49 26 ≠ some (.inl (.ref p))) ∧ (hget h 49 35 = some (.inl .null) ∨ ∃ p : Nat, hget h 49 35 = some (.inl (.ref p)) ∧ 79 ≤ p ∧ ∀ g, g < 62 → hr h p g = p + 1 + g)
def rTP (h : zH) (n : Nat) (B : Nat → Int32) : Prop := hv h 49 7 = nI n ∧ ∀ i, i < n → hv h 64 i = B i
def rFP (h : zH) (R : Nat → Int32) : Prop := ∀ i, i < 5 → hv h 65 (i + 2) = R i
def rS1 (h : zH) (C Z : Nat → Int32) (E : Nat → Nat → Int64) (s : Nat) : Prop := (hv h 50 s = 0 ∧ C s = -1) ∨ (hv h 50 s = 1 ∧ isRow (C s) ∧ (0 ≤ (Z s).toInt ∧ (Z s).toInt ≤ 40) ∧ hv h 51 s = C s ∧ hv h 52 s = Z s ∧ ∀ i, i < 40 → hJ h (54 + s) i = E s i) ∨ (hv h 50 s = 2 ∧ ∃ t, t < 8 ∧ hv h 63 s = nI t ∧ C s = nI (10 + t))
def rSP (h : zH) (C Z : Nat → Int32) (E : Nat → Nat → Int64) : Prop := ∀ s, s < 8 → rS1 h C Z E s
def RX (h : zH) (N : ST) (K : Option ST) (C Z : Nat → Int32) (E : Nat → Nat → Int64) (n : Nat) (B R : Nat → Int32) : Prop := r0P h ∧ rNP h N ∧ rKP h K ∧ rXP h ∧ rTP h n B ∧ rFP h R ∧ rSP h C Z E
/-- things on shelves are there -/
def okSh (N : ST) (K : Option ST) (C : Nat → Int32) : Prop := (∀ s, s < 8 → ∀ t : Nat, C s = nI (10 + t) → t < 8 → t < nT N) ∧ ownS N ∧ ∀ S, K = some S → ownS S
/-- a reference's block, by its types -/
def BT (T : List Nat) (q : Nat) : Prop := ∀ d, d < 30 → ∃ τ, T[q + d]? = some τ ∧ τ ≠ 41 ∧ τ ≠ 42 ∧ (d ≠ 0 → τ ≠ 6)
def RE (T : List Nat) (h : zH) : Prop := hOK kty T h ∧ tExt zT0 T ∧ (∀ q, T[q]? = some 6 → BT T q) ∧ pNul T h 49 26 6 ∧ pNul T h 49 27 6 ∧ pNul T h 49 35 41
def fr0 (h h' : zH) : Prop := ∀ n i, n < 49 → hget h' n i = hget h n i
section
variable {T : List Nat} {h h' : zH} {N N' S : ST} {K : Option ST} {C Z : Nat → Int32} {E : Nat → Nat → Int64} {n : Nat} {B R : Nat → Int32}
theorem fr0_r : fr0 h h := fun _ _ _ => rfl
theorem fr0_t {h'' : zH} (a : fr0 h h') (b : fr0 h' h'') : fr0 h h'' := fun m i e => (b m i e).trans (a m i e)
theorem sO_fr0 {q w : Nat} (s : sO q w h h') (d : 49 ≤ q) : fr0 h h' := fun m i h1 => s m i (by omega)
theorem rlay_49 (ce : tExt zT0 T) (l : rLy h 49) : RLay T h 49 := by
  have key : zT0[49]? = some 5 ∧ (∀ o ∈ rOff, zT0[49 + o.2.1]? = some o.2.2) ∧ ∀ b, b < 4 → zT0[49 + 25 + b]? = some 39 := ⟨rfl, by decide, by decide⟩
  exact ⟨Or.inl (ce _ _ key.1), fun o ho => ⟨l.1 o ho, ce _ _ (key.2.1 o ho)⟩, fun b hb => ⟨l.2 b hb, ce _ _ (key.2.2 b hb)⟩⟩
theorem rx_rc (ce : RE T h) (x : RX h N K C Z E n B R) : RC T h 49 ∧ rAbs h 49 = N := by
  obtain ⟨a, b, c, d⟩ := x.2.1
  exact ⟨⟨ce.1, rlay_49 ce.2.1 a, by rw [b]; exact c, d⟩, b⟩
theorem rx_rm (ce : RE T h) (x : RX h N K C Z E n B R) : RM T 49 h N h := by
  obtain ⟨c, a⟩ := rx_rc ce x
  have := RM_of c
  rw [a] at this
  exact this
theorem rLy_eq {p : Nat} (e : ∀ o ∈ rOff, hget h' p o.1 = hget h p o.1) (e2 : ∀ b, b < 4 → hget h' (p + 24) b = hget h (p + 24) b) (l : rLy h p) : rLy h' p := ⟨fun o ho => (hr_eq (e o ho)).trans (l.1 o ho), fun b hb => (hr_eq (e2 b hb)).trans (l.2 b hb)⟩
theorem rLy_blk {p : Nat} (e : ∀ d i, d < 29 → hget h' (p + d) i = hget h (p + d) i) (l : rLy h p) : rLy h' p := rLy_eq (fun o _ => e 0 o.1 (by decide)) (fun b _ => e 24 b (by decide)) l
theorem rBt_blk {p : Nat} (e : ∀ d i, d < 29 → hget h' (p + d) i = hget h (p + d) i) (l : rBt h p) : rBt h' p := fun i hi => by
  rw [hv_eq (e 17 i (by decide))]
  exact l i hi
/-- cells of the reference's own block -/
def own49 (h h' : zH) : Prop := ∀ d i, d < 29 → hget h' (49 + d) i = hget h (49 + d) i
theorem r0P_eq (e : ∀ i, (i = 0 ∨ i = 1 ∨ i = 2 ∨ i = 3 ∨ i = 4 ∨ i = 5 ∨ i = 6 ∨ i = 8 ∨ i = 33) → hget h' 49 i = hget h 49 i) (e2 : ∀ s, s < 8 → hget h' 53 s = hget h 53 s) (p : r0P h) : r0P h' := by
  obtain ⟨⟨a0, a1, a2, a3, a4, a5, a6, a7, a8⟩, b⟩ := p
  exact ⟨⟨(hr_eq (e 0 (by omega))).trans a0, (hr_eq (e 1 (by omega))).trans a1, (hr_eq (e 2 (by omega))).trans a2, (hr_eq (e 3 (by omega))).trans a3, (hr_eq (e 4 (by omega))).trans a4, (hr_eq (e 5 (by omega))).trans a5, (hr_eq (e 6 (by omega))).trans a6, (hr_eq (e 8 (by omega))).trans a7, (hr_eq (e 33 (by omega))).trans a8⟩, fun s hs => (hr_eq (e2 s hs)).trans (b s hs)⟩
theorem rKP_eq (e : hget h' 49 26 = hget h 49 26) (e2 : ∀ m i, 79 ≤ m → hget h' m i = hget h m i) (p : rKP h K) : rKP h' K := by
  rcases p with ⟨y, z⟩ | ⟨q, S, y1, y2, y3, y4, y5, y6, y7⟩
  · exact Or.inl ⟨by rw [e]; exact y, z⟩
  · have eb : ∀ d i, d < 29 → hget h' (q + d) i = hget h (q + d) i := fun d i _ => e2 _ i (by omega)
    have b4 := nB_4 y6
    refine Or.inr ⟨q, S, by rw [e]; exact y1, y2, y3, rLy_blk eb y4, ?_, y6, rBt_blk eb y7⟩
    rw [← y5]
    refine rAbs_same ?_ eb
    rw [← y5] at b4
    exact b4
theorem rXP_eq (e6 : hget h' 49 26 = hget h 49 26) (e7 : hget h' 49 27 = hget h 49 27) (e : hget h' 49 35 = hget h 49 35) (e2 : ∀ m i, 79 ≤ m → hget h' m i = hget h m i) (p : rXP h) : rXP h' := by
  obtain ⟨p1, p2⟩ := p
  refine ⟨?_, ?_⟩
  · rw [e6, e7]
    rcases p1 with y | ⟨q, y1, y2, y3, y4⟩
    · exact Or.inl y
    · exact Or.inr ⟨q, y1, y2, rLy_blk (fun d i _ => e2 _ i (by omega)) y3, y4⟩
  · rw [e]
    rcases p2 with y | ⟨q, y1, y2, y3⟩
    · exact Or.inl y
    · exact Or.inr ⟨q, y1, y2, fun g hg => (hr_eq (e2 q g y2)).trans (y3 g hg)⟩
theorem rTP_eq (e : hget h' 49 7 = hget h 49 7) (e2 : ∀ i, hget h' 64 i = hget h 64 i) (p : rTP h n B) : rTP h' n B := ⟨(hv_eq e).trans p.1, fun i hi => (hv_eq (e2 i)).trans (p.2 i hi)⟩
theorem rFP_eq (e2 : ∀ i, hget h' 65 i = hget h 65 i) (p : rFP h R) : rFP h' R := fun i hi => (hv_eq (e2 (i + 2))).trans (p i hi)
theorem rSP_eq (e : ∀ m i, (m = 50 ∨ m = 51 ∨ m = 52 ∨ m = 63 ∨ (54 ≤ m ∧ m ≤ 61)) → hget h' m i = hget h m i) (p : rSP h C Z E) : rSP h' C Z E := fun s hs => by
  have f0 := hv_eq (e 50 s (by omega))
  have f1 := hv_eq (e 51 s (by omega))
  have f2 := hv_eq (e 52 s (by omega))
  have f3 := hv_eq (e 63 s (by omega))
  have f4 : ∀ i, hJ h' (54 + s) i = hJ h (54 + s) i := fun i => hJ_eq (e (54 + s) i (by omega))
  have := p s hs
  unfold rS1 at this ⊢
  rw [f0, f1, f2, f3]
  rcases this with y | ⟨y1, y2, y3, y4, y5, y6⟩ | y
  · exact Or.inl y
  · exact Or.inr (Or.inl ⟨y1, y2, y3, y4, y5, fun i hi => (f4 i).trans (y6 i hi)⟩)
  · exact Or.inr (Or.inr y)
theorem rc_no {d i : Nat} (h0 : d ≠ 0 ∨ (i ≠ 9 ∧ i ≠ 10 ∧ i ≠ 11 ∧ i ≠ 12 ∧ i ≠ 13 ∧ i ≠ 14 ∧ i ≠ 15 ∧ i ≠ 17 ∧ i ≠ 23)) (h1 : d ≤ 16 ∨ d = 24 ∨ 29 ≤ d) : ¬ rCell d i := fun hc => by
  rcases hc with y | y | y | y | y | y | y | y | ⟨b, y⟩ <;> omega
theorem sQ_at (s : sQ 49 h h') {m i : Nat} (h0 : m ≠ 49 ∨ (i ≠ 9 ∧ i ≠ 10 ∧ i ≠ 11 ∧ i ≠ 12 ∧ i ≠ 13 ∧ i ≠ 14 ∧ i ≠ 15 ∧ i ≠ 17 ∧ i ≠ 23)) (h1 : m ≤ 65 ∨ m = 73 ∨ 78 ≤ m) : hget h' m i = hget h m i := s m i (fun ⟨d, e, hc⟩ => rc_no (by omega) (by omega) hc)
/-- the stall changed -/
theorem rx_now (x : RX h N K C Z E n B R) (m : RM T 49 h N' h') (w : WF N') : RX h' N' K C Z E n B R ∧ fr0 h h' := by
  obtain ⟨c, a, s⟩ := RM_RC m w
  obtain ⟨x0, x1, x2, x3, x5, x6, x7⟩ := x
  refine ⟨⟨r0P_eq (fun i hi => sQ_at s (by omega) (by omega)) (fun i _ => sQ_at s (by omega) (by omega)) x0, ⟨⟨fun o ho => (c.2.1.2.1 o ho).1, fun b hb => (c.2.1.2.2 b hb).1⟩, a, w, c.2.2.2⟩, rKP_eq (sQ_at s (by omega) (by omega)) (fun m i hm => sQ_at s (by omega) (by omega)) x2, rXP_eq (sQ_at s (by omega) (by omega)) (sQ_at s (by omega) (by omega)) (sQ_at s (by omega) (by omega)) (fun m i hm => sQ_at s (by omega) (by omega)) x3, rTP_eq (sQ_at s (by omega) (by omega)) (fun i => sQ_at s (by omega) (by omega)) x5, rFP_eq (fun i => sQ_at s (by omega) (by omega)) x6, rSP_eq (fun m i hm => sQ_at s (by omega) (by omega)) x7⟩, fun m i hm => sQ_at s (by omega) (by omega)⟩
theorem rNP_eq (e : ∀ m i, (m = 49 → i = 9 ∨ i = 10 ∨ i = 11 ∨ i = 12 ∨ i = 13 ∨ i = 14 ∨ i = 15 ∨ i = 17 ∨ i = 23 ∨ i = 16 ∨ i = 18 ∨ i = 19 ∨ i = 20 ∨ i = 21 ∨ i = 22 ∨ i = 24 ∨ i = 25) → (m = 49 ∨ (66 ≤ m ∧ m ≤ 77)) → hget h' m i = hget h m i) (p : rNP h N) : rNP h' N := by
  obtain ⟨l, a, w, t⟩ := p
  have key : ∀ o ∈ rOff, o.1 = 16 ∨ o.1 = 18 ∨ o.1 = 19 ∨ o.1 = 20 ∨ o.1 = 21 ∨ o.1 = 22 ∨ o.1 = 24 ∨ o.1 = 25 := by decide
  have row : ∀ d i, 17 ≤ d → d ≤ 28 → hv h' (49 + d) i = hv h (49 + d) i := fun d i h1 h2 => hv_eq (e (49 + d) i (fun y => by omega) (by omega))
  have num : ∀ i, (i = 9 ∨ i = 10 ∨ i = 11 ∨ i = 12 ∨ i = 13 ∨ i = 14 ∨ i = 15 ∨ i = 17 ∨ i = 23) → hv h' 49 i = hv h 49 i := fun i hi => hv_eq (e 49 i (fun _ => by omega) (Or.inl rfl))
  have s6 : (hv h 49 9).toNatClampNeg ≤ 60 := by
    have := (nS_60 w).1
    rw [← a] at this
    exact this
  have t8 : (hv h 49 17).toNatClampNeg ≤ 8 := by
    have := nT_8 w
    rw [← a] at this
    exact this
  have b4 : (hv h 49 23).toNatClampNeg ≤ 4 := by
    have := nB_4 w
    rw [← a] at this
    exact this
  refine ⟨rLy_eq (fun o ho => e 49 o.1 (fun _ => by have := key o ho; omega) (Or.inl rfl)) (fun b hb => e 73 b (fun y => absurd y (by decide)) (by omega)) l, ?_, w, fun i hi => ?_⟩
  · rw [← a, rAbs_mk, rAbs_mk]
    exact mkR_congr s6 t8 b4 (fun i hi => num i hi) (fun i _ => row 17 i (by decide) (by decide)) (fun d i h1 h2 _ => row d i (by omega) (by omega)) (fun i _ => row 23 i (by decide) (by decide)) (fun b i hb _ => row (25 + b) i (by omega) (by omega))
  · rw [row 17 i (by decide) (by decide)]
    exact t i hi
/-- one of the cells behind 49 changed: tape, refusals, shelves -/
theorem rx_tp {n' : Nat} {B' : Nat → Int32} (x : RX h N K C Z E n B R) (s : ∀ m i, m ≠ 64 → (m = 49 → i ≠ 7) → hget h' m i = hget h m i) (p : rTP h' n' B') : RX h' N K C Z E n' B' R ∧ fr0 h h' := by
  obtain ⟨x0, x1, x2, x3, x5, x6, x7⟩ := x
  exact ⟨⟨r0P_eq (fun i hi => s 49 i (by decide) (fun _ => by omega)) (fun i _ => s 53 i (by decide) (fun y => absurd y (by decide))) x0, rNP_eq (fun m i h1 h2 => s m i (by omega) (fun y => by have := h1 y; omega)) x1, rKP_eq (s 49 26 (by decide) (fun _ => by decide)) (fun m i hm => s m i (by omega) (fun y => by omega)) x2, rXP_eq (s 49 26 (by decide) (fun _ => by decide)) (s 49 27 (by decide) (fun _ => by decide)) (s 49 35 (by decide) (fun _ => by decide)) (fun m i hm => s m i (by omega) (fun y => by omega)) x3, p, rFP_eq (fun i => s 65 i (by decide) (fun y => absurd y (by decide))) x6, rSP_eq (fun m i hm => s m i (by omega) (fun y => by omega)) x7⟩, fun m i hm => s m i (by omega) (fun y => by omega)⟩
theorem rx_rf {R' : Nat → Int32} (x : RX h N K C Z E n B R) (s : ∀ m i, m ≠ 65 → hget h' m i = hget h m i) (p : rFP h' R') : RX h' N K C Z E n B R' ∧ fr0 h h' := by
  obtain ⟨x0, x1, x2, x3, x5, x6, x7⟩ := x
  exact ⟨⟨r0P_eq (fun i hi => s 49 i (by decide)) (fun i _ => s 53 i (by decide)) x0, rNP_eq (fun m i h1 h2 => s m i (by omega)) x1, rKP_eq (s 49 26 (by decide)) (fun m i hm => s m i (by omega)) x2, rXP_eq (s 49 26 (by decide)) (s 49 27 (by decide)) (s 49 35 (by decide)) (fun m i hm => s m i (by omega)) x3, rTP_eq (s 49 7 (by decide)) (fun i => s 64 i (by decide)) x5, p, rSP_eq (fun m i hm => s m i (by omega)) x7⟩, fun m i hm => s m i (by omega)⟩
theorem rx_sh {C' Z' : Nat → Int32} {E' : Nat → Nat → Int64} (x : RX h N K C Z E n B R) (s : ∀ m i, ¬ (m = 50 ∨ m = 51 ∨ m = 52 ∨ m = 62 ∨ m = 63 ∨ (54 ≤ m ∧ m ≤ 61)) → hget h' m i = hget h m i) (p : rSP h' C' Z' E') : RX h' N K C' Z' E' n B R ∧ fr0 h h' := by
  obtain ⟨x0, x1, x2, x3, x5, x6, x7⟩ := x
  exact ⟨⟨r0P_eq (fun i hi => s 49 i (by omega)) (fun i _ => s 53 i (by omega)) x0, rNP_eq (fun m i h1 h2 => s m i (by omega)) x1, rKP_eq (s 49 26 (by omega)) (fun m i hm => s m i (by omega)) x2, rXP_eq (s 49 26 (by omega)) (s 49 27 (by omega)) (s 49 35 (by omega)) (fun m i hm => s m i (by omega)) x3, rTP_eq (s 49 7 (by omega)) (fun i => s 64 i (by omega)) x5, rFP_eq (fun i => s 65 i (by omega)) x6, p⟩, fun m i hm => s m i (by omega)⟩
def rO (h : zH) (N : ST) (K : Option ST) (C Z : Nat → Int32) (E : Nat → Nat → Int64) (n : Nat) (B R : Nat → Int32) (a : Int32) (r : Int32 × zH) : Prop := r.1 = a ∧ RX r.2 N K C Z E n B R ∧ fr0 h r.2
theorem rx_rfk (ce : RE T h) (x : RX h N K C Z E n B R) {k : Nat} (hk : k < 5) : RX (hput h 65 (k + 2) (.inl (.int (hv h 65 (k + 2) + 1)))) N K C Z E n B (rfR R k) ∧ fr0 h (hput h 65 (k + 2) (.inl (.int (hv h 65 (k + 2) + 1)))) := by
  have t65 := zT_at ce.2.1 (q := 65) (τ := 30) rfl
  have hk8 : k + 2 < 8 := by omega
  have g := k_int ce.1 t65 (i := k + 2) hk8 rfl
  refine rx_rf x (fun m i hm => hget_put_ne (Or.inl hm)) (fun i hi => ?_)
  unfold rfR
  by_cases y : i = k
  · rw [if_pos y, y, hv_put g]
    exact congrArg (· + 1) (x.2.2.2.2.2.1 k hk)
  · rw [if_neg y, hv_ne (Or.inr (by omega))]
    exact x.2.2.2.2.2.1 i hi
end
section
variable {T : List Nat} {h h' : zH} {N N' S : ST} {K : Option ST} {C Z : Nat → Int32} {E : Nat → Nat → Int64} {n : Nat} {B R : Nat → Int32}
theorem r_rf0 (ce : RE T h) (x : RX h N K C Z E n B R) : rO h N K C Z E n B (rfR R 0) (-2) (F_X5_refuse h 49 (-2 : Int32)) := by
  have e : F_X5_refuse h 49 (-2 : Int32) = ((-2 : Int32), hput h 65 (0 + 2) (.inl (.int (hv h 65 (0 + 2) + 1)))) := by
    have h2 : (-(-2 : Int32)).toNatClampNeg = 0 + 2 := by decide
    unfold F_X5_refuse
    simp only [letf]
    rw [x.1.1.2.2.2.2.2.2.2.1, h2]
  rw [e]
  exact ⟨rfl, rx_rfk ce x (by decide)⟩
theorem r_rf1 (ce : RE T h) (x : RX h N K C Z E n B R) : rO h N K C Z E n B (rfR R 1) (-3) (F_X5_refuse h 49 (-3 : Int32)) := by
  have e : F_X5_refuse h 49 (-3 : Int32) = ((-3 : Int32), hput h 65 (1 + 2) (.inl (.int (hv h 65 (1 + 2) + 1)))) := by
    have h2 : (-(-3 : Int32)).toNatClampNeg = 1 + 2 := by decide
    unfold F_X5_refuse
    simp only [letf]
    rw [x.1.1.2.2.2.2.2.2.2.1, h2]
  rw [e]
  exact ⟨rfl, rx_rfk ce x (by decide)⟩
theorem r_rf2 (ce : RE T h) (x : RX h N K C Z E n B R) : rO h N K C Z E n B (rfR R 2) (-4) (F_X5_refuse h 49 (-4 : Int32)) := by
  have e : F_X5_refuse h 49 (-4 : Int32) = ((-4 : Int32), hput h 65 (2 + 2) (.inl (.int (hv h 65 (2 + 2) + 1)))) := by
    have h2 : (-(-4 : Int32)).toNatClampNeg = 2 + 2 := by decide
    unfold F_X5_refuse
    simp only [letf]
    rw [x.1.1.2.2.2.2.2.2.2.1, h2]
  rw [e]
  exact ⟨rfl, rx_rfk ce x (by decide)⟩
theorem r_rf3 (ce : RE T h) (x : RX h N K C Z E n B R) : rO h N K C Z E n B (rfR R 3) (-5) (F_X5_refuse h 49 (-5 : Int32)) := by
  have e : F_X5_refuse h 49 (-5 : Int32) = ((-5 : Int32), hput h 65 (3 + 2) (.inl (.int (hv h 65 (3 + 2) + 1)))) := by
    have h2 : (-(-5 : Int32)).toNatClampNeg = 3 + 2 := by decide
    unfold F_X5_refuse
    simp only [letf]
    rw [x.1.1.2.2.2.2.2.2.2.1, h2]
  rw [e]
  exact ⟨rfl, rx_rfk ce x (by decide)⟩
theorem r_rf4 (ce : RE T h) (x : RX h N K C Z E n B R) : rO h N K C Z E n B (rfR R 4) (-6) (F_X5_refuse h 49 (-6 : Int32)) := by
  have e : F_X5_refuse h 49 (-6 : Int32) = ((-6 : Int32), hput h 65 (4 + 2) (.inl (.int (hv h 65 (4 + 2) + 1)))) := by
    have h2 : (-(-6 : Int32)).toNatClampNeg = 4 + 2 := by decide
    unfold F_X5_refuse
    simp only [letf]
    rw [x.1.1.2.2.2.2.2.2.2.1, h2]
  rw [e]
  exact ⟨rfl, rx_rfk ce x (by decide)⟩
end
