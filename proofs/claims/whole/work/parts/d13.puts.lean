/-- the class's stall out of its cells: d behind the stall's own place -/
def mkC (rd : Nat → Nat → Int32) (jj : Int64) : ST := fun c i => match c with
  | 0 => (match i with
    | 0 => rd 0 0
    | 1 => rd 0 1
    | 2 => rd 0 2
    | 3 => rd 0 3
    | 4 => rd 0 4
    | 5 => rd 0 5
    | 6 => rd 0 6
    | 7 => rd 0 8
    | 8 => rd 0 14
    | _ => 0)
  | 1 => if 1 ≤ i ∧ i ≤ (rd 0 0).toNatClampNeg then nI (nb (jN jj) i) else 0
  | 2 => if i < (rd 0 8).toNatClampNeg then rd 1 i else 0
  | 3 => if i < (rd 0 8).toNatClampNeg then rd 2 i else 0
  | 4 => if i < (rd 0 8).toNatClampNeg then rd 3 i else 0
  | 5 => if i < (rd 0 8).toNatClampNeg then rd 4 i else 0
  | 6 => if i < (rd 0 8).toNatClampNeg then rd 5 i else 0
  | 7 => if i < (rd 0 14).toNatClampNeg then rd 6 i else 0
  | 8 => if i % 8 < (rd 0 8).toNatClampNeg ∧ i / 8 < (rd 0 14).toNatClampNeg then rd 7 i else 0
  | _ => 0
theorem cAbs_mk (h : zH) (q : Nat) : cAbs h q = mkC (fun d i => hv h (q + d) i) (hJ h q 7) := by
  funext c i
  match c with
  | 0 =>
    match i with
    | 0 => rfl
    | 1 => rfl
    | 2 => rfl
    | 3 => rfl
    | 4 => rfl
    | 5 => rfl
    | 6 => rfl
    | 7 => rfl
    | 8 => rfl
    | _ + 9 => rfl
  | 1 => rfl
  | 2 => rfl
  | 3 => rfl
  | 4 => rfl
  | 5 => rfl
  | 6 => rfl
  | 7 => rfl
  | 8 => rfl
  | _ + 9 => rfl
/-- the reference out of its cells -/
def mkR (rd : Nat → Nat → Int32) : ST := fun c i => match c with
  | 0 => (match i with
    | 0 => rd 0 9
    | 1 => rd 0 10
    | 2 => rd 0 11
    | 3 => rd 0 12
    | 4 => rd 0 13
    | 5 => rd 0 14
    | 6 => rd 0 15
    | 7 => rd 0 17
    | 8 => rd 0 23
    | _ => 0)
  | 1 => if 1 ≤ i ∧ i ≤ (rd 0 9).toNatClampNeg then 1 - rd 17 i else 0
  | 2 => if i < (rd 0 17).toNatClampNeg then rd 18 i else 0
  | 3 => if i < (rd 0 17).toNatClampNeg then rd 19 i else 0
  | 4 => if i < (rd 0 17).toNatClampNeg then rd 20 i else 0
  | 5 => if i < (rd 0 17).toNatClampNeg then rd 21 i else 0
  | 6 => if i < (rd 0 17).toNatClampNeg then rd 22 i else 0
  | 7 => if i < (rd 0 23).toNatClampNeg then rd 23 i else 0
  | 8 => if i % 8 < (rd 0 17).toNatClampNeg ∧ i / 8 < (rd 0 23).toNatClampNeg then rd (25 + i / 8) (i % 8) else 0
  | _ => 0
theorem rAbs_mk (h : zH) (q : Nat) : rAbs h q = mkR (fun d i => hv h (q + d) i) := by
  funext c i
  match c with
  | 0 =>
    match i with
    | 0 => rfl
    | 1 => rfl
    | 2 => rfl
    | 3 => rfl
    | 4 => rfl
    | 5 => rfl
    | 6 => rfl
    | 7 => rfl
    | 8 => rfl
    | _ + 9 => rfl
  | 1 => rfl
  | 2 => rfl
  | 3 => rfl
  | 4 => rfl
  | 5 => rfl
  | 6 => rfl
  | 7 => rfl
  | 8 =>
    show (if i % 8 < (hv h q 17).toNatClampNeg ∧ i / 8 < (hv h q 23).toNatClampNeg then hv h (q + 25 + i / 8) (i % 8) else 0) = (if i % 8 < (hv h q 17).toNatClampNeg ∧ i / 8 < (hv h q 23).toNatClampNeg then hv h (q + (25 + i / 8)) (i % 8) else 0)
    rw [Nat.add_assoc]
  | _ + 9 => rfl
/-- a cell written -/
def upR (rd : Nat → Nat → Int32) (d i : Nat) (x : Int32) : Nat → Nat → Int32 := fun d' i' => if d' = d ∧ i' = i then x else rd d' i'
def uS (S : ST) (c i : Nat) (x : Int32) : ST := fun c' i' => if c' = c ∧ i' = i then x else S c' i'
theorem rd_put {h : zH} {q d i : Nat} {x : Int32} {w : zV} (hw : hget h (q + d) i = some w) : (fun d' i' => hv (hput h (q + d) i (.inl (.int x))) (q + d') i') = upR (fun d' i' => hv h (q + d') i') d i x := by
  funext d' i'
  unfold upR
  by_cases e : d' = d ∧ i' = i
  · rw [if_pos e, e.1, e.2]
    exact hv_put hw
  · rw [if_neg e]
    refine hv_ne ?_
    by_cases e1 : d' = d
    · exact Or.inr (fun e2 => e ⟨e1, e2⟩)
    · exact Or.inl (fun e2 => e1 (by omega))
theorem rd_putJ {h : zH} {q d i : Nat} {x : Int64} : (d ≠ 0 ∨ i = 7) → ∀ d' i', ¬ (d' = d ∧ i' = i) → hv (hput h (q + d) i (.inl (.long x))) (q + d') i' = hv h (q + d') i' := fun _ d' i' e => by
  refine hv_ne ?_
  by_cases e1 : d' = d
  · exact Or.inr (fun e2 => e ⟨e1, e2⟩)
  · exact Or.inl (fun e2 => e1 (by omega))
/-- the numbers of the class's stall that are written alone -/
theorem mkC_num {rd : Nat → Nat → Int32} {jj : Int64} {i : Nat} {x : Int32} (hi : i = 1 ∨ i = 2 ∨ i = 3 ∨ i = 4 ∨ i = 5 ∨ i = 6) : mkC (upR rd 0 i x) jj = uS (mkC rd jj) 0 i x := by
  funext c k
  rcases hi with rfl | rfl | rfl | rfl | rfl | rfl <;>
  · match c with
    | 0 =>
      match k with
      | 0 => rfl
      | 1 => rfl
      | 2 => rfl
      | 3 => rfl
      | 4 => rfl
      | 5 => rfl
      | 6 => rfl
      | 7 => rfl
      | 8 => rfl
      | _ + 9 => rfl
    | 1 => rfl
    | 2 => rfl
    | 3 => rfl
    | 4 => rfl
    | 5 => rfl
    | 6 => rfl
    | 7 => rfl
    | 8 => rfl
    | _ + 9 => rfl
