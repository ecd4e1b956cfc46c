/-- a stall, whoever keeps it: numbers (0), slips in (1), things by kind, slip, a, age, owner (2 to 6), purses (7), likings (8) -/
abbrev ST := Nat → Nat → Int32
def nS (S : ST) : Nat := (S 0 0).toNatClampNeg
def nT (S : ST) : Nat := (S 0 7).toNatClampNeg
def nB (S : ST) : Nat := (S 0 8).toNatClampNeg
def cNum (h : zH) (q i : Nat) : Int32 := match i with
  | 0 => hv h q 0
  | 1 => hv h q 1
  | 2 => hv h q 2
  | 3 => hv h q 3
  | 4 => hv h q 4
  | 5 => hv h q 5
  | 6 => hv h q 6
  | 7 => hv h q 8
  | 8 => hv h q 14
  | _ => 0
/-- the class's stall at q -/
def cAbs (h : zH) (q : Nat) : ST := fun c i => match c with
  | 0 => cNum h q i
  | 1 => if 1 ≤ i ∧ i ≤ (hv h q 0).toNatClampNeg then nI (nb (jN (hJ h q 7)) i) else 0
  | 2 => if i < (hv h q 8).toNatClampNeg then hv h (q + 1) i else 0
  | 3 => if i < (hv h q 8).toNatClampNeg then hv h (q + 2) i else 0
  | 4 => if i < (hv h q 8).toNatClampNeg then hv h (q + 3) i else 0
  | 5 => if i < (hv h q 8).toNatClampNeg then hv h (q + 4) i else 0
  | 6 => if i < (hv h q 8).toNatClampNeg then hv h (q + 5) i else 0
  | 7 => if i < (hv h q 14).toNatClampNeg then hv h (q + 6) i else 0
  | 8 => if i % 8 < (hv h q 8).toNatClampNeg ∧ i / 8 < (hv h q 14).toNatClampNeg then hv h (q + 7) i else 0
  | _ => 0
def rNum (h : zH) (q i : Nat) : Int32 := match i with
  | 0 => hv h q 9
  | 1 => hv h q 10
  | 2 => hv h q 11
  | 3 => hv h q 12
  | 4 => hv h q 13
  | 5 => hv h q 14
  | 6 => hv h q 15
  | 7 => hv h q 17
  | 8 => hv h q 23
  | _ => 0
/-- the reference at q -/
def rAbs (h : zH) (q : Nat) : ST := fun c i => match c with
  | 0 => rNum h q i
  | 1 => if 1 ≤ i ∧ i ≤ (hv h q 9).toNatClampNeg then 1 - hv h (q + 17) i else 0
  | 2 => if i < (hv h q 17).toNatClampNeg then hv h (q + 18) i else 0
  | 3 => if i < (hv h q 17).toNatClampNeg then hv h (q + 19) i else 0
  | 4 => if i < (hv h q 17).toNatClampNeg then hv h (q + 20) i else 0
  | 5 => if i < (hv h q 17).toNatClampNeg then hv h (q + 21) i else 0
  | 6 => if i < (hv h q 17).toNatClampNeg then hv h (q + 22) i else 0
  | 7 => if i < (hv h q 23).toNatClampNeg then hv h (q + 23) i else 0
  | 8 => if i % 8 < (hv h q 17).toNatClampNeg ∧ i / 8 < (hv h q 23).toNatClampNeg then hv h (q + 25 + i / 8) (i % 8) else 0
  | _ => 0
/-- what holds of every stall -/
def okT (S : ST) (t : Nat) : Prop := (0 ≤ (S 2 t).toInt ∧ (S 2 t).toInt ≤ 5) ∧ (1 ≤ (S 3 t).toInt ∧ (S 3 t).toInt ≤ (S 0 0).toInt) ∧ (0 ≤ (S 4 t).toInt ∧ (S 4 t).toInt ≤ 9) ∧ (S 6 t = -1 ∨ (0 ≤ (S 6 t).toInt ∧ (S 6 t).toInt < 4)) ∧ (S 6 t = -1 → S 1 (S 3 t).toNatClampNeg = 1) ∧ ∀ u : Nat, u < t → S 3 u ≠ S 3 t
def WF (S : ST) : Prop := ((1 ≤ (S 0 0).toInt ∧ (S 0 0).toInt ≤ 60) ∧ (2 ≤ (S 0 1).toInt ∧ (S 0 1).toInt ≤ 10) ∧ (1 ≤ (S 0 2).toInt ∧ (S 0 2).toInt ≤ 99) ∧ (1 ≤ (S 0 3).toInt ∧ (S 0 3).toInt ≤ 495) ∧ (0 ≤ (S 0 7).toInt ∧ (S 0 7).toInt ≤ 8) ∧ (0 ≤ (S 0 8).toInt ∧ (S 0 8).toInt ≤ 4)) ∧ (∀ i, S 1 i = 0 ∨ S 1 i = 1) ∧ (∀ t, t < nT S → okT S t) ∧ (∀ b, 0 ≤ (S 7 b).toInt ∧ (S 7 b).toInt ≤ 9999) ∧ ∀ i, 0 ≤ (S 8 i).toInt ∧ (S 8 i).toInt ≤ 999
theorem WF_sl {S : ST} (w : WF S) : 1 ≤ (S 0 0).toInt ∧ (S 0 0).toInt ≤ 60 := w.1.1
theorem WF_th {S : ST} (w : WF S) : 0 ≤ (S 0 7).toInt ∧ (S 0 7).toInt ≤ 8 := w.1.2.2.2.2.1
theorem WF_bu {S : ST} (w : WF S) : 0 ≤ (S 0 8).toInt ∧ (S 0 8).toInt ≤ 4 := w.1.2.2.2.2.2
theorem clamp_i {x : Int32} (h : 0 ≤ x.toInt) : ((x.toNatClampNeg : Nat) : Int) = x.toInt := by
  have : x.toNatClampNeg = x.toInt.toNat := rfl
  omega
theorem nT_i {S : ST} (w : WF S) : ((nT S : Nat) : Int) = (S 0 7).toInt := clamp_i (WF_th w).1
theorem nB_i {S : ST} (w : WF S) : ((nB S : Nat) : Int) = (S 0 8).toInt := clamp_i (WF_bu w).1
theorem nS_i {S : ST} (w : WF S) : ((nS S : Nat) : Int) = (S 0 0).toInt := clamp_i (by have := (WF_sl w).1; omega)
theorem nT_8 {S : ST} (w : WF S) : nT S ≤ 8 := by
  have := nT_i w
  have := (WF_th w).2
  omega
theorem nB_4 {S : ST} (w : WF S) : nB S ≤ 4 := by
  have := nB_i w
  have := (WF_bu w).2
  omega
theorem nS_60 {S : ST} (w : WF S) : nS S ≤ 60 ∧ 1 ≤ nS S := by
  have := nS_i w
  have := WF_sl w
  omega
/-- where things stand: the class's stall, the reference -/
def cOff : List (Nat × Nat × Nat) := [(9, 1, 11), (10, 2, 12), (11, 3, 13), (12, 4, 14), (13, 5, 15), (15, 6, 16), (16, 7, 17)]
def CLay (T : List Nat) (h : zH) (q : Nat) : Prop := T[q]? = some 1 ∧ ∀ o ∈ cOff, hr h q o.1 = q + o.2.1 ∧ T[q + o.2.1]? = some o.2.2
/-- besides: no bit but those of slips, no liking but of buyers and things that are there -/
def cInv (h : zH) (q : Nat) : Prop := (∀ i, i < 64 → (i = 0 ∨ (hv h q 0).toNatClampNeg < i) → nb (jN (hJ h q 7)) i = 0) ∧ ∀ i, i < 32 → ¬ (i % 8 < (hv h q 8).toNatClampNeg ∧ i / 8 < (hv h q 14).toNatClampNeg) → hv h (q + 7) i = 0
def CC (T : List Nat) (h : zH) (q : Nat) : Prop := hOK kty T h ∧ CLay T h q ∧ WF (cAbs h q) ∧ cInv h q
def rOff : List (Nat × Nat × Nat) := [(16, 17, 31), (18, 18, 32), (19, 19, 33), (20, 20, 34), (21, 21, 35), (22, 22, 36), (24, 23, 37), (25, 24, 38)]
def RLay (T : List Nat) (h : zH) (q : Nat) : Prop := (T[q]? = some 5 ∨ T[q]? = some 6) ∧ (∀ o ∈ rOff, hr h q o.1 = q + o.2.1 ∧ T[q + o.2.1]? = some o.2.2) ∧ ∀ b, b < 4 → hr h (q + 24) b = q + 25 + b ∧ T[q + 25 + b]? = some 39
def RC (T : List Nat) (h : zH) (q : Nat) : Prop := hOK kty T h ∧ RLay T h q ∧ WF (rAbs h q) ∧ ∀ i, i < 61 → hv h (q + 17) i = 0 ∨ hv h (q + 17) i = 1
section
variable {T : List Nat} {h : zH} {q : Nat}
theorem cl9 (c : CLay T h q) : hr h q 9 = q + 1 := (c.2 (9, 1, 11) (by decide +kernel)).1
theorem cl10 (c : CLay T h q) : hr h q 10 = q + 2 := (c.2 (10, 2, 12) (by decide +kernel)).1
theorem cl11 (c : CLay T h q) : hr h q 11 = q + 3 := (c.2 (11, 3, 13) (by decide +kernel)).1
theorem cl12 (c : CLay T h q) : hr h q 12 = q + 4 := (c.2 (12, 4, 14) (by decide +kernel)).1
theorem cl13 (c : CLay T h q) : hr h q 13 = q + 5 := (c.2 (13, 5, 15) (by decide +kernel)).1
theorem cl15 (c : CLay T h q) : hr h q 15 = q + 6 := (c.2 (15, 6, 16) (by decide +kernel)).1
theorem cl16 (c : CLay T h q) : hr h q 16 = q + 7 := (c.2 (16, 7, 17) (by decide +kernel)).1
theorem rl16 (c : RLay T h q) : hr h q 16 = q + 17 := (c.2.1 (16, 17, 31) (by decide +kernel)).1
theorem rl18 (c : RLay T h q) : hr h q 18 = q + 18 := (c.2.1 (18, 18, 32) (by decide +kernel)).1
theorem rl19 (c : RLay T h q) : hr h q 19 = q + 19 := (c.2.1 (19, 19, 33) (by decide +kernel)).1
theorem rl20 (c : RLay T h q) : hr h q 20 = q + 20 := (c.2.1 (20, 20, 34) (by decide +kernel)).1
theorem rl21 (c : RLay T h q) : hr h q 21 = q + 21 := (c.2.1 (21, 21, 35) (by decide +kernel)).1
theorem rl22 (c : RLay T h q) : hr h q 22 = q + 22 := (c.2.1 (22, 22, 36) (by decide +kernel)).1
theorem rl24 (c : RLay T h q) : hr h q 24 = q + 23 := (c.2.1 (24, 23, 37) (by decide +kernel)).1
theorem rl25 (c : RLay T h q) : hr h q 25 = q + 24 := (c.2.1 (25, 24, 38) (by decide +kernel)).1
end
