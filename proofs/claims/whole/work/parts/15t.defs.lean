abbrev tC : Type := List (Nat × Int × Int)
abbrev tA : Type := Nat × Int × Int × Nat × tC
abbrev tL : Type := List (Nat × tA)
/-- a slot: kind, lo, hi, type, may be written -/
abbrev tSl : Type := Nat × Int × Int × Nat × Bool
/-- a type: the cell's tag, how many slots, the slots -/
abbrev tTy : Type := Nat × Nat × (Nat → tSl)
/-- a summary: the arguments; 0 none, 1 a value with conditions by argument, 2 within; the answer -/
abbrev tE : Type := List tA × Nat × tA × tC
def tval : zV → Int
  | .inl (.int x) => x.toInt
  | .inl (.long x) => x.toInt
  | _ => 0
def okS (T : List Nat) (s : tSl) (v : zV) : Prop := match s.1 with
  | 0 => ∃ x : Int32, v = .inl (.int x) ∧ s.2.1 ≤ x.toInt ∧ x.toInt ≤ s.2.2.1
  | 1 => ∃ x : Int64, v = .inl (.long x)
  | 4 => ∃ q : Nat, v = .inl (.ref q) ∧ T[q]? = some s.2.2.2.1
  | _ => True
def hOK (ty : Nat → tTy) (T : List Nat) (h : zH) : Prop := h.length = T.length ∧ h.length ≤ 1000000 ∧ ∀ q τ : Nat, T[q]? = some τ → ∃ vs : List zV, h[q]? = some ((ty τ).1, vs) ∧ vs.length = (ty τ).2.1 ∧ ∀ (i : Nat) (v : zV), vs[i]? = some v → okS T ((ty τ).2.2 i) v
def okA (T : List Nat) (a : tA) (v : zV) : Prop := match a.1 with
  | 0 => ∃ x : Int32, v = .inl (.int x) ∧ a.2.1 ≤ x.toInt ∧ x.toInt ≤ a.2.2.1
  | 1 => ∃ x : Int64, v = .inl (.long x) ∧ a.2.1 ≤ x.toInt ∧ x.toInt ≤ a.2.2.1
  | 2 => ∃ q : Nat, v = .inl (.ref q) ∧ T[q]? = some a.2.2.2.1
  | 4 => v = .inl (.ref a.2.2.2.1)
  | _ => False
def okTag (L : zL) (a : tA) (v : zV) : Prop := (∀ k : Nat, a.1 ≤ 1 → a.2.2.2.1 = k + 1 → ∃ x : Int32, zget L k = some (.inl (.int x)) ∧ tval v = x.toInt) ∧ ∀ c ∈ a.2.2.2.2, v ≠ .inl (.int 0) → ∃ x : Int32, zget L c.1 = some (.inl (.int x)) ∧ c.2.1 ≤ x.toInt ∧ x.toInt ≤ c.2.2
def okSt (T : List Nat) (L : zL) : List tA → List zV → Prop
  | [], [] => True
  | a :: l, v :: vs => (okA T a v ∧ okTag L a v) ∧ okSt T L l vs
  | _, _ => False
def okL (T : List Nat) (aL : tL) (L : zL) : Prop := ∀ p ∈ aL, ∃ v : zV, zget L p.1 = some v ∧ okA T p.2 v
def tI (lo hi : Int) : tA := (0, lo, hi, 0, [])
def tIf : tA := (0, -2147483648, 2147483647, 0, [])
def tIc (lo hi : Int) : tA := if -2147483648 ≤ lo ∧ hi ≤ 2147483647 then tI lo hi else tIf
def tLf : tA := (1, -9223372036854775808, 9223372036854775807, 0, [])
def tR (τ : Nat) : tA := (2, 0, 0, τ, [])
def tX (k : Nat) : tA := (4, 0, 0, k, [])
def tlo (a : tA) : Int := a.2.1
def thi (a : tA) : Int := a.2.2.1
def taux (a : tA) : Nat := a.2.2.2.1
def tcnd (a : tA) : tC := a.2.2.2.2
def tint (a : tA) : Bool := Nat.beq a.1 0
def tlong (a : tA) : Bool := Nat.beq a.1 1
def tref (a : tA) : Bool := Nat.beq a.1 2
def tcat (a : tA) : Nat := if a.1 = 1 then 2 else 1
def tsum : List tA → Nat
  | [] => 0
  | a :: l => tcat a + tsum l
def tget (aL : tL) (k : Nat) : Option tA := match aL.find? (fun p => Nat.beq p.1 k) with
  | some p => some p.2
  | none => none
/-- the stack forgets what it knows of local k -/
def tfog1 (k : Nat) (a : tA) : tA := (a.1, a.2.1, a.2.2.1, if a.1 ≤ 1 ∧ a.2.2.2.1 = k + 1 then 0 else a.2.2.2.1, a.2.2.2.2.filter (fun c => !(Nat.beq c.1 k)))
def tfog (k : Nat) (st : List tA) : List tA := st.map (tfog1 k)
def tput (aL : tL) (k : Nat) (a : tA) : tL := (k, (a.1, a.2.1, a.2.2.1, (if a.1 ≤ 1 then 0 else a.2.2.2.1), [])) :: aL.filter (fun p => !(Nat.beq p.1 k) && !(Nat.beq (p.1 + 1) k && Nat.beq p.2.1 1))
def tput2 (aL : tL) (k : Nat) (a : tA) : tL := (k, (a.1, a.2.1, a.2.2.1, 0, [])) :: aL.filter (fun p => !(Nat.beq p.1 k) && (!(Nat.beq p.1 (k + 1)) && !(Nat.beq (p.1 + 1) k && Nat.beq p.2.1 1)))
/-- what is on top, when local k is laid there -/
def tpush (k : Nat) (a : tA) : tA := if a.1 ≤ 1 then (a.1, a.2.1, a.2.2.1, (if a.1 = 0 then k + 1 else 0), []) else (a.1, a.2.1, a.2.2.1, a.2.2.2.1, [])
/-- local k is known to lie between -/
def tcut (aL : tL) (k : Nat) (lo hi : Int) : Option tL := match tget aL k with
  | some a => if a.1 = 0 then (if max a.2.1 lo ≤ min a.2.2.1 hi then some ((k, tI (max a.2.1 lo) (min a.2.2.1 hi)) :: aL.filter (fun p => !(Nat.beq p.1 k))) else none) else some aL
  | none => some aL
def tcutO (aL : tL) (k : Nat) (lo hi : Int) (K : tL → Bool) : Bool := match tcut aL k lo hi with
  | some aL' => K aL'
  | none => true
/-- cut by the tag of a -/
def tcutA (aL : tL) (a : tA) (lo hi : Int) (K : tL → Bool) : Bool := if lo ≤ hi ∧ lo ≤ thi a ∧ tlo a ≤ hi then (match taux a with
  | 0 => K aL
  | k + 1 => tcutO aL k lo hi K) else true
def tcutC : tC → tL → (tL → Bool) → Bool
  | [], aL, K => K aL
  | c :: cs, aL, K => tcutO aL c.1 c.2.1 c.2.2 (fun aL' => tcutC cs aL' K)
/-- both sides of a comparison x cd y, known to hold -/
def tcmp (cd : ClassFile.Cond) (aL : tL) (a b : tA) (K : tL → Bool) : Bool := match cd with
  | .eq => tcutA aL a (tlo b) (thi b) (fun aL' => tcutA aL' b (tlo a) (thi a) K)
  | .ne => if tlo b = thi b then (if tlo a = tlo b then tcutA aL a (tlo a + 1) (thi a) K else if thi a = tlo b then tcutA aL a (tlo a) (thi a - 1) K else K aL) else if tlo a = thi a then (if tlo b = tlo a then tcutA aL b (tlo b + 1) (thi b) K else if thi b = tlo a then tcutA aL b (tlo b) (thi b - 1) K else K aL) else K aL
  | .lt => tcutA aL a (tlo a) (thi b - 1) (fun aL' => tcutA aL' b (tlo a + 1) (thi b) K)
  | .ge => tcutA aL a (tlo b) (thi a) (fun aL' => tcutA aL' b (tlo b) (thi a) K)
  | .gt => tcutA aL a (tlo b + 1) (thi a) (fun aL' => tcutA aL' b (tlo b) (thi a - 1) K)
  | .le => tcutA aL a (tlo a) (thi b) (fun aL' => tcutA aL' b (tlo a) (thi b) K)
def tneg : ClassFile.Cond → ClassFile.Cond
  | .eq => .ne
  | .ne => .eq
  | .lt => .ge
  | .ge => .lt
  | .gt => .le
  | .le => .gt
/-- what a condition on top says, if it isn't 0 (cd against 0 holds) -/
def tknow (cd : ClassFile.Cond) (a : tA) : tC := match cd with
  | .ne => tcnd a
  | .gt => tcnd a
  | .lt => tcnd a
  | _ => []
def tup (n : Int) : Int := if n ≤ 1 then 1 else if n ≤ 3 then 3 else if n ≤ 7 then 7 else if n ≤ 15 then 15 else if n ≤ 31 then 31 else if n ≤ 63 then 63 else if n ≤ 127 then 127 else if n ≤ 255 then 255 else if n ≤ 511 then 511 else if n ≤ 1023 then 1023 else 2147483647
def tadd (a b : tA) : tA := tIc (tlo a + tlo b) (thi a + thi b)
def tsub (a b : tA) : tA := tIc (tlo a - thi b) (thi a - tlo b)
def tmul (a b : tA) : tA := if 0 ≤ tlo a ∧ 0 ≤ tlo b then tIc (tlo a * tlo b) (thi a * thi b) else tIf
def tand (a b : tA) : tA := if 0 ≤ tlo a then (if 0 ≤ tlo b then tI 0 (min (thi a) (thi b)) else tI 0 (thi a)) else if 0 ≤ tlo b then tI 0 (thi b) else tIf
def tor (a b : tA) : tA := if 0 ≤ tlo a ∧ 0 ≤ tlo b then tI 0 (tup (max (thi a) (thi b))) else tIf
def tshl (a b : tA) : tA := if tlo a = 1 ∧ thi a = 1 ∧ 0 ≤ tlo b ∧ thi b ≤ 30 then tI (2 ^ (tlo b).toNat) (2 ^ (thi b).toNat) else tIf
def tshr (a : tA) : tA := if 0 ≤ tlo a then tI 0 (thi a) else tIf
def tdiv (a b : tA) : tA := if 0 ≤ tlo a ∧ 1 ≤ tlo b then tI (tlo a / thi b) (thi a / tlo b) else tIf
def trem (a b : tA) : tA := if 0 ≤ tlo a ∧ 1 ≤ tlo b then tI 0 (thi b - 1) else tIf
def tl2i (a : tA) : tA := if -2147483648 ≤ tlo a ∧ thi a ≤ 2147483647 then tI (tlo a) (thi a) else tIf
def tmin (a b : tA) : tA := tI (min (tlo a) (tlo b)) (min (thi a) (thi b))
def tmax (a b : tA) : tA := tI (max (tlo a) (tlo b)) (max (thi a) (thi b))
/-- a is a kind of f -/
def tle (a f : tA) : Bool := Nat.beq a.1 f.1 && (match f.1 with
  | 0 => decide (tlo f ≤ tlo a) && decide (thi a ≤ thi f)
  | 1 => decide (tlo f ≤ tlo a) && decide (thi a ≤ thi f)
  | 2 => Nat.beq (taux a) (taux f)
  | 4 => Nat.beq (taux a) (taux f)
  | _ => false)
def tles : List tA → List tA → Bool
  | [], [] => true
  | a :: l, f :: fs => tle a f && tles l fs
  | _, _ => false
def tleL (aL fL : tL) : Bool := fL.all (fun p => match tget aL p.1 with
  | some a => tle a p.2
  | none => false)
/-- the conditions of an answer, by the callers' locals -/
def tconds (as : List tA) : tC → tC
  | [] => []
  | c :: cs => (match as[c.1]? with
    | some a => if a.1 ≤ 1 then (match taux a with
      | 0 => tconds as cs
      | k + 1 => (k, c.2.1, c.2.2) :: tconds as cs) else tconds as cs
    | none => tconds as cs)
def twith (as : List tA) : tC := match as with
  | a :: l :: m :: _ => if a.1 ≤ 1 then (match taux a with
    | 0 => []
    | k + 1 => [(k, tlo l, thi m)]) else []
  | _ => []
abbrev tK : Type := Nat → tL → List tA → Nat → Nat → Bool
def tcall (prog : Nat → Option zE) (sm : Nat → List tE) (hts : Nat → Nat) (D0 rc rs j : Nat) (E : zE) (as rest : List tA) (nc ns : Nat) (K : List tA → Nat → Nat → Bool) : Bool :=
  Nat.ble (hts j) D0 && (Nat.ble (nc + zEc E) rc && (Nat.ble (ns + zEs E) rs && (Nat.ble (tsum rest) 8 && (match (sm j).find? (fun e => tles as e.1) with
    | some e => (match e.2.1 with
      | 0 => K rest (nc + zEc E) (ns + zEs E)
      | 1 => K ((e.2.2.1.1, e.2.2.1.2.1, e.2.2.1.2.2.1, (if e.2.2.1.1 ≤ 1 then 0 else e.2.2.1.2.2.2.1), tconds as e.2.2.2) :: rest) (nc + zEc E) (ns + zEs E)
      | _ => as.all (fun x => Nat.ble x.1 1) && K ((0, 0, 1, 0, twith as) :: rest) (nc + zEc E) (ns + zEs E))
    | none => false))))
