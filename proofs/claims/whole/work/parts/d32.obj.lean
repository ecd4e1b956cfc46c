/-- the class's object, piece by piece -/
def isRow (x : Int32) : Prop := 0 ≤ x.toInt ∧ x.toInt ≤ 4
def c0P (h : zH) : Prop := hr h 0 0 = 1 ∧ hr h 0 1 = 9 ∧ hr h 0 2 = 17 ∧ hr h 0 3 = 25 ∧ hr h 0 4 = 29 ∧ hr h 0 5 = 31 ∧ hr h 0 6 = 32
def cNP (h : zH) (N : ST) : Prop := (∀ o ∈ cOff, hr h 1 o.1 = 1 + o.2.1) ∧ cAbs h 1 = N ∧ WF N ∧ cInv h 1
def cKP (h : zH) (K : Option ST) : Prop := (∀ o ∈ cOff, hr h 9 o.1 = 9 + o.2.1) ∧ ((hv h 0 7 = 0 ∧ K = none) ∨ (hv h 0 7 ≠ 0 ∧ ∃ S, K = some S ∧ cAbs h 9 = S ∧ WF S ∧ cInv h 9))
def cRP (h : zH) : Prop := ∀ o ∈ cOff, hr h 17 o.1 = 17 + o.2.1
def cHP (h : zH) : Prop := (hr h 25 0 = 26 ∧ hr h 25 1 = 27 ∧ hr h 25 2 = 28) ∧ hv h 28 0 = 0
def cTP (h : zH) (n : Nat) (B : Nat → Int32) : Prop := hr h 29 0 = 30 ∧ hv h 29 1 = nI n ∧ n ≤ 250 ∧ ∀ i, i < n → hv h 30 i = B i
def cFP (h : zH) (R : Nat → Int32) : Prop := ∀ i, i < 5 → hv h 32 i = R i
def cSP (h : zH) (C Z : Nat → Int32) (E : Nat → Nat → Int64) : Prop := ∀ s, s < 8 → (hr h 31 s = 33 + 2 * s ∧ hr h (33 + 2 * s) 2 = 34 + 2 * s) ∧ hv h (33 + 2 * s) 0 = C s ∧ (isRow (C s) → hv h (33 + 2 * s) 1 = Z s ∧ ∀ i, i < 40 → hJ h (34 + 2 * s) i = E s i)
def CX (h : zH) (N : ST) (K : Option ST) (C Z : Nat → Int32) (E : Nat → Nat → Int64) (n : Nat) (B R : Nat → Int32) : Prop := c0P h ∧ cNP h N ∧ cKP h K ∧ cRP h ∧ cHP h ∧ cTP h n B ∧ cFP h R ∧ cSP h C Z E
def CE (T : List Nat) (h : zH) : Prop := hOK kty T h ∧ tExt zT0 T
def eqR (a b : Nat) (h h' : zH) : Prop := ∀ n i, a ≤ n → n < b → hget h' n i = hget h n i
def fr49 (h h' : zH) : Prop := ∀ n i, 49 ≤ n → hget h' n i = hget h n i
section
variable {T : List Nat} {h h' : zH} {N N' S : ST} {K : Option ST} {C Z : Nat → Int32} {E : Nat → Nat → Int64} {n : Nat} {B R : Nat → Int32}
theorem sO_eqR {q w a b : Nat} (s : sO q w h h') (d : b ≤ q ∨ q + w ≤ a) : eqR a b h h' := fun m i h1 h2 => s m i (by omega)
theorem sO_fr {q w : Nat} (s : sO q w h h') (d : q + w ≤ 49) : fr49 h h' := fun m i h1 => s m i (by omega)
theorem cInv_same {q : Nat} (e : ∀ d i, d < 8 → hget h' (q + d) i = hget h (q + d) i) (c : cInv h q) : cInv h' q := by
  have r0 : ∀ i, hv h' q i = hv h q i := fun i => hv_eq (e 0 i (by decide))
  have j7 : hJ h' q 7 = hJ h q 7 := hJ_eq (e 0 7 (by decide))
  refine ⟨fun i hi h0 => ?_, fun i hi hn => ?_⟩
  · rw [j7]
    rw [r0] at h0
    exact c.1 i hi h0
  · rw [hv_eq (e 7 i (by decide))]
    rw [r0, r0] at hn
    exact c.2 i hi hn
theorem c0P_eq (e : eqR 0 1 h h') (p : c0P h) : c0P h' := by
  have r : ∀ i, hr h' 0 i = hr h 0 i := fun i => hr_eq (e 0 i (by decide) (by decide))
  unfold c0P
  rw [r, r, r, r, r, r, r]
  exact p
theorem cNP_eq (e : eqR 1 9 h h') (p : cNP h N) : cNP h' N := by
  have e' : ∀ d i, d < 8 → hget h' (1 + d) i = hget h (1 + d) i := fun d i hd => e (1 + d) i (by omega) (by omega)
  exact ⟨fun o ho => (hr_eq (e 1 o.1 (by decide) (by decide))).trans (p.1 o ho), (cAbs_same e').trans p.2.1, p.2.2.1, cInv_same e' p.2.2.2⟩
theorem cKP_eq (e0 : hv h' 0 7 = hv h 0 7) (e : eqR 9 17 h h') (p : cKP h K) : cKP h' K := by
  have e' : ∀ d i, d < 8 → hget h' (9 + d) i = hget h (9 + d) i := fun d i hd => e (9 + d) i (by omega) (by omega)
  refine ⟨fun o ho => (hr_eq (e 9 o.1 (by decide) (by decide))).trans (p.1 o ho), ?_⟩
  rw [e0]
  rcases p.2 with y | ⟨y, S, z1, z2, z3, z4⟩
  · exact Or.inl y
  · exact Or.inr ⟨y, S, z1, (cAbs_same e').trans z2, z3, cInv_same e' z4⟩
theorem cRP_eq (e : eqR 17 18 h h') (p : cRP h) : cRP h' := fun o ho => (hr_eq (e 17 o.1 (by decide) (by decide))).trans (p o ho)
theorem cHP_eq (e : eqR 25 29 h h') (p : cHP h) : cHP h' := by
  have r : ∀ i, hr h' 25 i = hr h 25 i := fun i => hr_eq (e 25 i (by decide) (by decide))
  unfold cHP
  rw [r, r, r, hv_eq (e 28 0 (by decide) (by decide))]
  exact p
theorem cTP_eq (e : eqR 29 31 h h') (p : cTP h n B) : cTP h' n B := ⟨(hr_eq (e 29 0 (by decide) (by decide))).trans p.1, (hv_eq (e 29 1 (by decide) (by decide))).trans p.2.1, p.2.2.1, fun i hi => (hv_eq (e 30 i (by decide) (by decide))).trans (p.2.2.2 i hi)⟩
theorem cFP_eq (e : eqR 32 33 h h') (p : cFP h R) : cFP h' R := fun i hi => (hv_eq (e 32 i (by decide) (by decide))).trans (p i hi)
theorem cSP_eq (e1 : eqR 31 32 h h') (e : eqR 33 49 h h') (p : cSP h C Z E) : cSP h' C Z E := fun s hs => by
  obtain ⟨p1, p2, p3⟩ := p s hs
  refine ⟨⟨(hr_eq (e1 31 s (by decide) (by decide))).trans p1.1, (hr_eq (e _ 2 (by omega) (by omega))).trans p1.2⟩, (hv_eq (e _ 0 (by omega) (by omega))).trans p2, fun hr => ⟨(hv_eq (e _ 1 (by omega) (by omega))).trans (p3 hr).1, fun i hi => (hJ_eq (e _ i (by omega) (by omega))).trans ((p3 hr).2 i hi)⟩⟩
theorem zT_at (ce : tExt zT0 T) {q τ : Nat} (h0 : zT0[q]? = some τ) : T[q]? = some τ := ce q τ h0
theorem clay_of (ce : tExt zT0 T) {q : Nat} (hq : q = 1 ∨ q = 9 ∨ q = 17) (l : ∀ o ∈ cOff, hr h q o.1 = q + o.2.1) : CLay T h q := by
  have key : ∀ q, (q = 1 ∨ q = 9 ∨ q = 17) → zT0[q]? = some 1 ∧ ∀ o ∈ cOff, zT0[q + o.2.1]? = some o.2.2 := by
    intro q hq
    rcases hq with rfl | rfl | rfl
    · exact ⟨rfl, by decide⟩
    · exact ⟨rfl, by decide⟩
    · exact ⟨rfl, by decide⟩
  exact ⟨ce _ _ (key q hq).1, fun o ho => ⟨l o ho, ce _ _ ((key q hq).2 o ho)⟩⟩
theorem cx_cc (ce : CE T h) (x : CX h N K C Z E n B R) : CC T h 1 ∧ cAbs h 1 = N := by
  obtain ⟨a, b, c, d⟩ := x.2.1
  exact ⟨⟨ce.1, clay_of ce.2 (Or.inl rfl) a, by rw [b]; exact c, d⟩, b⟩
theorem cx_cm (ce : CE T h) (x : CX h N K C Z E n B R) : CM T 1 h N h := by
  obtain ⟨c, a⟩ := cx_cc ce x
  have := CM_of c
  rw [a] at this
  exact this
/-- the stall changed -/
theorem cx_now (x : CX h N K C Z E n B R) (m : CM T 1 h N' h') (w : WF N') : CX h' N' K C Z E n B R ∧ fr49 h h' := by
  obtain ⟨c, a, s⟩ := CM_CC m w
  obtain ⟨x0, x1, x2, x3, x4, x5, x6, x7⟩ := x
  refine ⟨⟨c0P_eq (sO_eqR s (Or.inl (by decide))) x0, ⟨fun o ho => (c.2.1.2 o ho).1, a, w, c.2.2.2⟩, cKP_eq (hv_eq (s 0 7 (by decide))) (sO_eqR s (Or.inr (by decide))) x2, cRP_eq (sO_eqR s (Or.inr (by decide))) x3, cHP_eq (sO_eqR s (Or.inr (by decide))) x4, cTP_eq (sO_eqR s (Or.inr (by decide))) x5, cFP_eq (sO_eqR s (Or.inr (by decide))) x6, cSP_eq (sO_eqR s (Or.inr (by decide))) (sO_eqR s (Or.inr (by decide))) x7⟩, sO_fr s (by decide)⟩
/-- the trial stall changed -/
theorem cx_tr (x : CX h N K C Z E n B R) (s : sO 17 8 h h') (l : CLay T h' 17) : CX h' N K C Z E n B R ∧ fr49 h h' := by
  obtain ⟨x0, x1, x2, x3, x4, x5, x6, x7⟩ := x
  exact ⟨⟨c0P_eq (sO_eqR s (Or.inl (by decide))) x0, cNP_eq (sO_eqR s (Or.inl (by decide))) x1, cKP_eq (hv_eq (s 0 7 (by decide))) (sO_eqR s (Or.inl (by decide))) x2, fun o ho => (l.2 o ho).1, cHP_eq (sO_eqR s (Or.inr (by decide))) x4, cTP_eq (sO_eqR s (Or.inr (by decide))) x5, cFP_eq (sO_eqR s (Or.inr (by decide))) x6, cSP_eq (sO_eqR s (Or.inr (by decide))) (sO_eqR s (Or.inr (by decide))) x7⟩, sO_fr s (by decide)⟩
/-- the thought changed -/
theorem cx_th (x : CX h N K C Z E n B R) (s : sO 25 4 h h') (p : cHP h') : CX h' N K C Z E n B R ∧ fr49 h h' := by
  obtain ⟨x0, x1, x2, x3, x4, x5, x6, x7⟩ := x
  exact ⟨⟨c0P_eq (sO_eqR s (Or.inl (by decide))) x0, cNP_eq (sO_eqR s (Or.inl (by decide))) x1, cKP_eq (hv_eq (s 0 7 (by decide))) (sO_eqR s (Or.inl (by decide))) x2, cRP_eq (sO_eqR s (Or.inl (by decide))) x3, p, cTP_eq (sO_eqR s (Or.inr (by decide))) x5, cFP_eq (sO_eqR s (Or.inr (by decide))) x6, cSP_eq (sO_eqR s (Or.inr (by decide))) (sO_eqR s (Or.inr (by decide))) x7⟩, sO_fr s (by decide)⟩
/-- the tape changed -/
theorem cx_tp {n' : Nat} {B' : Nat → Int32} (x : CX h N K C Z E n B R) (s : sO 29 2 h h') (p : cTP h' n' B') : CX h' N K C Z E n' B' R ∧ fr49 h h' := by
  obtain ⟨x0, x1, x2, x3, x4, x5, x6, x7⟩ := x
  exact ⟨⟨c0P_eq (sO_eqR s (Or.inl (by decide))) x0, cNP_eq (sO_eqR s (Or.inl (by decide))) x1, cKP_eq (hv_eq (s 0 7 (by decide))) (sO_eqR s (Or.inl (by decide))) x2, cRP_eq (sO_eqR s (Or.inl (by decide))) x3, cHP_eq (sO_eqR s (Or.inl (by decide))) x4, p, cFP_eq (sO_eqR s (Or.inr (by decide))) x6, cSP_eq (sO_eqR s (Or.inr (by decide))) (sO_eqR s (Or.inr (by decide))) x7⟩, sO_fr s (by decide)⟩
/-- the refusals changed -/
theorem cx_rf {R' : Nat → Int32} (x : CX h N K C Z E n B R) (s : sO 32 1 h h') (p : cFP h' R') : CX h' N K C Z E n B R' ∧ fr49 h h' := by
  obtain ⟨x0, x1, x2, x3, x4, x5, x6, x7⟩ := x
  exact ⟨⟨c0P_eq (sO_eqR s (Or.inl (by decide))) x0, cNP_eq (sO_eqR s (Or.inl (by decide))) x1, cKP_eq (hv_eq (s 0 7 (by decide))) (sO_eqR s (Or.inl (by decide))) x2, cRP_eq (sO_eqR s (Or.inl (by decide))) x3, cHP_eq (sO_eqR s (Or.inl (by decide))) x4, cTP_eq (sO_eqR s (Or.inl (by decide))) x5, p, cSP_eq (sO_eqR s (Or.inl (by decide))) (sO_eqR s (Or.inr (by decide))) x7⟩, sO_fr s (by decide)⟩
/-- the shelves changed -/
theorem cx_sh {C' Z' : Nat → Int32} {E' : Nat → Nat → Int64} (x : CX h N K C Z E n B R) (s : sO 33 16 h h') (p : cSP h' C' Z' E') : CX h' N K C' Z' E' n B R ∧ fr49 h h' := by
  obtain ⟨x0, x1, x2, x3, x4, x5, x6, x7⟩ := x
  exact ⟨⟨c0P_eq (sO_eqR s (Or.inl (by decide))) x0, cNP_eq (sO_eqR s (Or.inl (by decide))) x1, cKP_eq (hv_eq (s 0 7 (by decide))) (sO_eqR s (Or.inl (by decide))) x2, cRP_eq (sO_eqR s (Or.inl (by decide))) x3, cHP_eq (sO_eqR s (Or.inl (by decide))) x4, cTP_eq (sO_eqR s (Or.inl (by decide))) x5, cFP_eq (sO_eqR s (Or.inl (by decide))) x6, p⟩, sO_fr s (by decide)⟩
theorem fr49_r : fr49 h h := fun _ _ _ => rfl
theorem fr49_t {h'' : zH} (a : fr49 h h') (b : fr49 h' h'') : fr49 h h'' := fun m i e => (b m i e).trans (a m i e)
/-- a refusal more -/
def rfR (R : Nat → Int32) (k : Nat) : Nat → Int32 := fun i => if i = k then R k + 1 else R i
theorem within4 : ∀ k : Nat, k < 5 → F_X4_isWithin (nI k) (0 : Int32) (4 : Int32) = 1 := fun k hk => by
  rw [F_isWithin_eq, nI_t (by omega), if_pos ⟨by rw [e0]; omega, by rw [show (4 : Int32).toInt = 4 from rfl]; omega⟩]
theorem refuse_0 {h : zH} (e : hr h 0 6 = 32) : F_X4_refuse h 0 (-2 : Int32) = ((-2 : Int32), hput h 32 0 (.inl (.int (hv h 32 0 + 1)))) := by
  have h1 : F_X4_isWithin ((-2 : Int32) - (-2 : Int32)) (0 : Int32) (4 : Int32) = 1 := by
    rw [F_isWithin_eq]
    decide
  have h2 : ((-2 : Int32) - (-2 : Int32)).toNatClampNeg = 0 := by decide
  unfold F_X4_refuse
  simp only [letf]
  rw [h1, e, h2]
  exact if_neg (by decide)
theorem refuse_1 {h : zH} (e : hr h 0 6 = 32) : F_X4_refuse h 0 (-3 : Int32) = ((-3 : Int32), hput h 32 1 (.inl (.int (hv h 32 1 + 1)))) := by
  have h1 : F_X4_isWithin ((-2 : Int32) - (-3 : Int32)) (0 : Int32) (4 : Int32) = 1 := by
    rw [F_isWithin_eq]
    decide
  have h2 : ((-2 : Int32) - (-3 : Int32)).toNatClampNeg = 1 := by decide
  unfold F_X4_refuse
  simp only [letf]
  rw [h1, e, h2]
  exact if_neg (by decide)
theorem refuse_2 {h : zH} (e : hr h 0 6 = 32) : F_X4_refuse h 0 (-4 : Int32) = ((-4 : Int32), hput h 32 2 (.inl (.int (hv h 32 2 + 1)))) := by
  have h1 : F_X4_isWithin ((-2 : Int32) - (-4 : Int32)) (0 : Int32) (4 : Int32) = 1 := by
    rw [F_isWithin_eq]
    decide
  have h2 : ((-2 : Int32) - (-4 : Int32)).toNatClampNeg = 2 := by decide
  unfold F_X4_refuse
  simp only [letf]
  rw [h1, e, h2]
  exact if_neg (by decide)
theorem refuse_3 {h : zH} (e : hr h 0 6 = 32) : F_X4_refuse h 0 (-5 : Int32) = ((-5 : Int32), hput h 32 3 (.inl (.int (hv h 32 3 + 1)))) := by
  have h1 : F_X4_isWithin ((-2 : Int32) - (-5 : Int32)) (0 : Int32) (4 : Int32) = 1 := by
    rw [F_isWithin_eq]
    decide
  have h2 : ((-2 : Int32) - (-5 : Int32)).toNatClampNeg = 3 := by decide
  unfold F_X4_refuse
  simp only [letf]
  rw [h1, e, h2]
  exact if_neg (by decide)
theorem refuse_4 {h : zH} (e : hr h 0 6 = 32) : F_X4_refuse h 0 (-6 : Int32) = ((-6 : Int32), hput h 32 4 (.inl (.int (hv h 32 4 + 1)))) := by
  have h1 : F_X4_isWithin ((-2 : Int32) - (-6 : Int32)) (0 : Int32) (4 : Int32) = 1 := by
    rw [F_isWithin_eq]
    decide
  have h2 : ((-2 : Int32) - (-6 : Int32)).toNatClampNeg = 4 := by decide
  unfold F_X4_refuse
  simp only [letf]
  rw [h1, e, h2]
  exact if_neg (by decide)
theorem cx_rfk (ce : CE T h) (x : CX h N K C Z E n B R) {k : Nat} (hk : k < 5) : CX (hput h 32 k (.inl (.int (hv h 32 k + 1)))) N K C Z E n B (rfR R k) ∧ fr49 h (hput h 32 k (.inl (.int (hv h 32 k + 1)))) := by
  have t32 := zT_at ce.2 (q := 32) (τ := 23) rfl
  have g := k_int ce.1 t32 (i := k) hk rfl
  refine cx_rf x (sO_put (q := 32) (d := 0) (by decide)) (fun i hi => ?_)
  unfold rfR
  by_cases y : i = k
  · rw [if_pos y, y, hv_put g]
    exact congrArg (· + 1) (x.2.2.2.2.2.2.1 k hk)
  · rw [if_neg y, hv_ne (Or.inr y)]
    exact x.2.2.2.2.2.2.1 i hi
/-- what a call of the class gives: the answer, and the object behind it -/
def cO (h : zH) (N : ST) (K : Option ST) (C Z : Nat → Int32) (E : Nat → Nat → Int64) (n : Nat) (B R : Nat → Int32) (a : Int32) (r : Int32 × zH) : Prop := r.1 = a ∧ CX r.2 N K C Z E n B R ∧ fr49 h r.2
theorem c_rf0 (ce : CE T h) (x : CX h N K C Z E n B R) : cO h N K C Z E n B (rfR R 0) (-2) (F_X4_refuse h 0 (-2 : Int32)) := by
  rw [refuse_0 x.1.2.2.2.2.2.2]
  exact ⟨rfl, cx_rfk ce x (by decide)⟩
theorem c_rf1 (ce : CE T h) (x : CX h N K C Z E n B R) : cO h N K C Z E n B (rfR R 1) (-3) (F_X4_refuse h 0 (-3 : Int32)) := by
  rw [refuse_1 x.1.2.2.2.2.2.2]
  exact ⟨rfl, cx_rfk ce x (by decide)⟩
theorem c_rf2 (ce : CE T h) (x : CX h N K C Z E n B R) : cO h N K C Z E n B (rfR R 2) (-4) (F_X4_refuse h 0 (-4 : Int32)) := by
  rw [refuse_2 x.1.2.2.2.2.2.2]
  exact ⟨rfl, cx_rfk ce x (by decide)⟩
theorem c_rf3 (ce : CE T h) (x : CX h N K C Z E n B R) : cO h N K C Z E n B (rfR R 3) (-5) (F_X4_refuse h 0 (-5 : Int32)) := by
  rw [refuse_3 x.1.2.2.2.2.2.2]
  exact ⟨rfl, cx_rfk ce x (by decide)⟩
theorem c_rf4 (ce : CE T h) (x : CX h N K C Z E n B R) : cO h N K C Z E n B (rfR R 4) (-6) (F_X4_refuse h 0 (-6 : Int32)) := by
  rw [refuse_4 x.1.2.2.2.2.2.2]
  exact ⟨rfl, cx_rfk ce x (by decide)⟩
end
