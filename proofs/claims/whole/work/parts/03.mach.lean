abbrev zV : Type := Value ⊕ (Bool × Int × Int)
abbrev zC : Type := Nat × List zV
abbrev zH : Type := List zC
abbrev zL : Type := List (Nat × zV)
abbrev zS : Type := Nat × zL × List zV × zH × Nat × Nat
abbrev zI : Type := Instr × zV × Nat × Nat × Nat × Nat
abbrev zCd : Type := List (Nat × List (Nat × zI))
abbrev zE : Type := MethodName × ByteArray × Nat × Option FieldType × Nat × Nat × Nat × Nat × zCd
def zEm (E : zE) : Nat := E.2.2.1
def zEp (E : zE) : Nat := E.2.2.2.2.1
def zEk (E : zE) : Nat := E.2.2.2.2.2.1
def zEc (E : zE) : Nat := E.2.2.2.2.2.2.1
def zEs (E : zE) : Nat := E.2.2.2.2.2.2.2.1
def zEd (E : zE) : zCd := E.2.2.2.2.2.2.2.2
def zft (cd : zCd) (pc : Nat) : Option zI := match cd.find? (fun q => Nat.blt pc q.1) with
  | some q => (match q.2.find? (fun r => Nat.beq r.1 pc) with
    | some r => some r.2
    | none => none)
  | none => none
def zI0 : zV := .inr (false, -2147483648, 2147483647)
def zL0 : zV := .inr (true, -9223372036854775808, 9223372036854775807)
def zisI : zV → Bool
  | .inl (.int _) => true
  | .inr (false, _) => true
  | _ => false
def zisL : zV → Bool
  | .inl (.long _) => true
  | .inr (true, _) => true
  | _ => false
def zisR : zV → Bool
  | .inl .null => true
  | .inl (.ref _) => true
  | _ => false
def zcat : zV → Nat
  | .inl v => v.category
  | .inr (true, _) => 2
  | .inr (false, _) => 1
def zlo : zV → Int
  | .inl (.int x) => x.toInt
  | .inl (.long x) => x.toInt
  | .inr (_, lo, _) => lo
  | _ => 0
def zhi : zV → Int
  | .inl (.int x) => x.toInt
  | .inl (.long x) => x.toInt
  | .inr (_, _, hi) => hi
  | _ => 0
def zmk (lo hi : Int) : zV := if lo = hi then .inl (.int (Int32.ofInt lo)) else .inr (false, lo, hi)
def zlt (a b : zV) : Option Bool := if zhi a < zlo b then some true else if zhi b ≤ zlo a then some false else none
def zeq (a b : zV) : Option Bool := if zhi a < zlo b ∨ zhi b < zlo a then some false else if zhi a ≤ zlo b ∧ zhi b ≤ zlo a then some true else none
def znot : Option Bool → Option Bool
  | some b => some (!b)
  | none => none
def zcond : ClassFile.Cond → zV → zV → Option Bool
  | .eq, a, b => zeq a b
  | .ne, a, b => znot (zeq a b)
  | .lt, a, b => zlt a b
  | .ge, a, b => znot (zlt a b)
  | .gt, a, b => zlt b a
  | .le, a, b => znot (zlt b a)
def zbr (o : Option Bool) (kt kf : Bool) : Bool := match o with
  | some true => kt
  | some false => kf
  | none => kt && kf
def zget (L : zL) (i : Nat) : Option zV := match L.find? (fun q => Nat.beq q.1 i) with
  | some q => some q.2
  | none => none
def zst1 (L : zL) (i : Nat) (v : zV) : zL := (i, v) :: L.filter (fun q => !(Nat.beq q.1 i) && !(Nat.beq (q.1 + 1) i && Nat.beq (zcat q.2) 2))
def zst2 (L : zL) (i : Nat) (v : zV) : zL := (i, v) :: L.filter (fun q => !(Nat.beq q.1 i) && (!(Nat.beq q.1 (i + 1)) && !(Nat.beq (q.1 + 1) i && Nat.beq (zcat q.2) 2)))
def zld (P : zV → Bool) (L : zL) (i : Nat) (k : zV → Bool) : Bool := match zget L i with
  | some v => P v && k v
  | none => false
def zs1 (P : zV → Bool) (L : zL) (nL i : Nat) (st : List zV) (k : zL → List zV → Bool) : Bool := match st with
  | v :: r => P v && (Nat.blt i nL && k (zst1 L i v) r)
  | [] => false
def zs2 (L : zL) (nL i : Nat) (st : List zV) (k : zL → List zV → Bool) : Bool := match st with
  | v :: r => zisL v && (Nat.blt (i + 1) nL && k (zst2 L i v) r)
  | [] => false
def zb2 (f : Int32 → Int32 → Int32) (st : List zV) (k : List zV → Bool) : Bool := match st with
  | .inl (.int b) :: .inl (.int a) :: r => k (.inl (.int (f a b)) :: r)
  | b :: a :: r => zisI a && (zisI b && k (zI0 :: r))
  | _ => false
def zml (st : List zV) (k : List zV → Bool) : Bool := match st with
  | .inl (.int b) :: .inl (.int a) :: r => k (.inl (.int (a * b)) :: r)
  | b :: .inl (.int a) :: r => zisI b && k ((if a = 0 then .inl (.int 0) else zI0) :: r)
  | b :: a :: r => zisI a && (zisI b && k (zI0 :: r))
  | _ => false
def zdv (f : Int32 → Int32 → Int32) (st : List zV) (k : List zV → Bool) : Bool := match st with
  | .inl (.int b) :: .inl (.int a) :: r => !(b == 0) && k (.inl (.int (f a b)) :: r)
  | _ => false
def zb2l (f : Int64 → Int64 → Int64) (st : List zV) (k : List zV → Bool) : Bool := match st with
  | .inl (.long b) :: .inl (.long a) :: r => k (.inl (.long (f a b)) :: r)
  | b :: a :: r => zisL a && (zisL b && k (zL0 :: r))
  | _ => false
def zdvl (f : Int64 → Int64 → Int64) (st : List zV) (k : List zV → Bool) : Bool := match st with
  | .inl (.long b) :: .inl (.long a) :: r => !(b == 0) && k (.inl (.long (f a b)) :: r)
  | _ => false
def zshl (f : Int64 → Int32 → Int64) (st : List zV) (k : List zV → Bool) : Bool := match st with
  | .inl (.int b) :: .inl (.long a) :: r => k (.inl (.long (f a b)) :: r)
  | b :: a :: r => zisL a && (zisI b && k (zL0 :: r))
  | _ => false
def zcmpL (a b : zV) : zV := zmk (if zhi b < zlo a then 1 else if zhi b ≤ zlo a then 0 else -1) (if zhi a < zlo b then -1 else if zhi a ≤ zlo b then 0 else 1)
def zof (pc : Nat) (off : Int) (k : Nat → Bool) : Bool := match (pc : Int) + off with
  | .ofNat t => k t
  | .negSucc _ => false
def zdef : FieldType → zV
  | .long => .inl (.long 0)
  | .object _ => .inl .null
  | .array _ => .inl .null
  | _ => .inl (.int 0)
def zfit : Nat → zV → Bool
  | 0, v => zisI v
  | 1, v => zisL v
  | 2, v => zisR v
  | _, v => match v with
    | .inl (.int x) => x == 0 || x == 1
    | _ => false
def zcpy (f g : List zV) (sp dp n : Nat) : List zV := g.take dp ++ ((f.drop sp).take n ++ g.drop (dp + n))
def zrow (h : zH) (q : Nat) (t : Nat) (k : List zV → Bool) : Bool := match h[q]? with
  | some c => Nat.blt q 1000000 && (Nat.beq c.1 t && k c.2)
  | none => false
def zel (vs : List zV) (i : Int32) (k : zV → Bool) : Bool := if i < 0 then false else match vs[i.toNatClampNeg]? with
  | some v => k v
  | none => false
def zix (vs : List zV) (i : Int32) : Bool := if i < 0 then false else Nat.blt i.toNatClampNeg vs.length
def zsum : List zV → Nat
  | [] => 0
  | v :: l => zcat v + zsum l
def zpush : Option zV → List zV → List zV
  | some v, l => v :: l
  | none, l => l
def zund : List zV := [.inl (.int (-1)), .inl (.int 0), .inl (.int 0), .inl (.int 1), .inl (.int 0), .inl (.int 4)]
def zlens : List Nat := [5, 4, 5, 5, 5, 5, 3, 4]
def zbyts : List (List Int32) := [[115, 108, 105, 112, 115], [114, 117, 108, 101], [112, 114, 105, 99, 101], [116, 104, 105, 110, 103], [98, 117, 121, 101, 114], [108, 105, 107, 101, 115], [111, 117, 116], [102, 105, 118, 101]]
def zslen (q : Nat) : Option Int32 := if 1000000 ≤ q ∧ q < 1000008 then some (Int32.ofNat (zlens.getD (q - 1000000) 0)) else none
def zsch (q : Nat) (i : Int32) : Option Int32 := if 1000000 ≤ q ∧ q < 1000008 then (if i < 0 then none else (zbyts.getD (q - 1000000) [])[i.toNatClampNeg]?) else none
abbrev zK : Type := Nat → List zV → zH → (Option zV → zH → Bool) → Bool
def zcall (prog : Nat → Option zE) (cc : zK) (j : Nat) (st : List zV) (h : zH) (nc ns rc rs : Nat) (k : List zV → zH → Nat → Nat → Bool) : Bool := match prog j with
  | some E => Nat.ble (zEp E) st.length && (Nat.ble (nc + zEc E) rc && (Nat.ble (ns + zEs E) rs && (Nat.ble (zsum (st.drop (zEp E))) 8 && cc j (st.take (zEp E)).reverse h (fun r h' => k (zpush r (st.drop (zEp E))) h' (nc + zEc E) (ns + zEs E)))))
  | none => false
def zcalv (prog : Nat → Option zE) (cc : zK) (j : Nat) (st : List zV) (h : zH) (nc ns rc rs : Nat) (k : List zV → zH → Nat → Nat → Bool) : Bool := match prog j with
  | some E => Nat.ble (zEp E) st.length && (Nat.ble (nc + zEc E) rc && (Nat.ble (ns + zEs E) rs && (match st.drop (zEp E) with
    | .inl (.ref q) :: r => zrow h q (zEk E) (fun _ => Nat.ble (zsum r) 8 && cc j (.inl (.ref q) :: (st.take (zEp E)).reverse) h (fun v h' => k (zpush v r) h' (nc + zEc E) (ns + zEs E)))
    | _ => false)))
  | none => false
def zstep (zN : Nat → Nat) (zdf : Nat → List zV) (slen : Nat → Option Int32) (prog : Nat → Option zE) (nL rc rs : Nat) (scr : List zV) (cc : zK) (K : zS → Bool) (ins : Instr) (cv : zV) (a b c : Nat) (pc : Nat) (L : zL) (st : List zV) (h : zH) (nc ns : Nat) : Bool :=
  match ins with
  | .iconst n => K (pc + 1, L, .inl (.int (Int32.ofInt n)) :: st, h, nc, ns)
  | .bipush n => K (pc + 2, L, .inl (.int (Int8.ofInt n).toInt32) :: st, h, nc, ns)
  | .sipush n => K (pc + 3, L, .inl (.int (Int16.ofInt n).toInt32) :: st, h, nc, ns)
  | .lconst n => K (pc + 1, L, .inl (.long (Int64.ofNat (n : Nat))) :: st, h, nc, ns)
  | .iload_n k => zld zisI L k.val (fun v => K (pc + 1, L, v :: st, h, nc, ns))
  | .iload k => zld zisI L k (fun v => K (pc + 2, L, v :: st, h, nc, ns))
  | .lload_n k => zld zisL L k.val (fun v => K (pc + 1, L, v :: st, h, nc, ns))
  | .lload k => zld zisL L k (fun v => K (pc + 2, L, v :: st, h, nc, ns))
  | .aload_n k => zld zisR L k.val (fun v => K (pc + 1, L, v :: st, h, nc, ns))
  | .aload k => zld zisR L k (fun v => K (pc + 2, L, v :: st, h, nc, ns))
  | .istore_n k => zs1 zisI L nL k.val st (fun L' r => K (pc + 1, L', r, h, nc, ns))
  | .istore k => zs1 zisI L nL k st (fun L' r => K (pc + 2, L', r, h, nc, ns))
  | .astore_n k => zs1 zisR L nL k.val st (fun L' r => K (pc + 1, L', r, h, nc, ns))
  | .astore k => zs1 zisR L nL k st (fun L' r => K (pc + 2, L', r, h, nc, ns))
  | .lstore_n k => zs2 L nL k.val st (fun L' r => K (pc + 1, L', r, h, nc, ns))
  | .lstore k => zs2 L nL k st (fun L' r => K (pc + 2, L', r, h, nc, ns))
  | .iinc k n => (match zget L k with
    | some (.inl (.int x)) => Nat.blt k nL && K (pc + 3, zst1 L k (.inl (.int (x + Int32.ofInt n))), st, h, nc, ns)
    | _ => false)
  | .iadd => zb2 (fun x y => x + y) st (fun st' => K (pc + 1, L, st', h, nc, ns))
  | .isub => zb2 (fun x y => x - y) st (fun st' => K (pc + 1, L, st', h, nc, ns))
  | .imul => zml st (fun st' => K (pc + 1, L, st', h, nc, ns))
  | .iand => zb2 (fun x y => x &&& y) st (fun st' => K (pc + 1, L, st', h, nc, ns))
  | .ior => zb2 (fun x y => x ||| y) st (fun st' => K (pc + 1, L, st', h, nc, ns))
  | .ixor => zb2 (fun x y => x ^^^ y) st (fun st' => K (pc + 1, L, st', h, nc, ns))
  | .ishl => zb2 (fun x y => x <<< (y &&& 31)) st (fun st' => K (pc + 1, L, st', h, nc, ns))
  | .ishr => zb2 (fun x y => x >>> (y &&& 31)) st (fun st' => K (pc + 1, L, st', h, nc, ns))
  | .iushr => zb2 (fun x y => (x.toUInt32 >>> (y.toUInt32 &&& Int32.toUInt32 31)).toInt32) st (fun st' => K (pc + 1, L, st', h, nc, ns))
  | .idiv => zdv (fun x y => x / y) st (fun st' => K (pc + 1, L, st', h, nc, ns))
  | .irem => zdv (fun x y => x - x / y * y) st (fun st' => K (pc + 1, L, st', h, nc, ns))
  | .ineg => (match st with
    | .inl (.int x) :: r => K (pc + 1, L, .inl (.int (-x)) :: r, h, nc, ns)
    | _ => false)
  | .ladd => zb2l (fun x y => x + y) st (fun st' => K (pc + 1, L, st', h, nc, ns))
  | .lsub => zb2l (fun x y => x - y) st (fun st' => K (pc + 1, L, st', h, nc, ns))
  | .ldiv => zdvl (fun x y => x / y) st (fun st' => K (pc + 1, L, st', h, nc, ns))
  | .i2b => (match st with
    | .inl (.int x) :: r => K (pc + 1, L, .inl (.int x.toInt8.toInt32) :: r, h, nc, ns)
    | _ => false)
  | .i2s => (match st with
    | .inl (.int x) :: r => K (pc + 1, L, .inl (.int x.toInt16.toInt32) :: r, h, nc, ns)
    | _ => false)
  | .lmul => zb2l (fun x y => x * y) st (fun st' => K (pc + 1, L, st', h, nc, ns))
  | .land => zb2l (fun x y => x &&& y) st (fun st' => K (pc + 1, L, st', h, nc, ns))
  | .lor => zb2l (fun x y => x ||| y) st (fun st' => K (pc + 1, L, st', h, nc, ns))
  | .lxor => zb2l (fun x y => x ^^^ y) st (fun st' => K (pc + 1, L, st', h, nc, ns))
  | .lshl => zshl (fun x y => x <<< (y.toInt64 &&& 63)) st (fun st' => K (pc + 1, L, st', h, nc, ns))
  | .lushr => zshl (fun x y => (x.toUInt64 >>> (y.toInt64.toUInt64 &&& Int64.toUInt64 63)).toInt64) st (fun st' => K (pc + 1, L, st', h, nc, ns))
  | .i2l => (match st with
    | .inl (.int x) :: r => K (pc + 1, L, .inl (.long x.toInt64) :: r, h, nc, ns)
    | .inr (false, lo, hi) :: r => K (pc + 1, L, .inr (true, lo, hi) :: r, h, nc, ns)
    | _ => false)
  | .l2i => (match st with
    | .inl (.long x) :: r => K (pc + 1, L, .inl (.int x.toInt32) :: r, h, nc, ns)
    | v :: r => zisL v && K (pc + 1, L, zI0 :: r, h, nc, ns)
    | _ => false)
  | .lcmp => (match st with
    | y :: x :: r => zisL x && (zisL y && K (pc + 1, L, zcmpL x y :: r, h, nc, ns))
    | _ => false)
  | .dup => (match st with
    | v :: r => Nat.beq (zcat v) 1 && K (pc + 1, L, v :: v :: r, h, nc, ns)
    | _ => false)
  | .dup2 => (match st with
    | v :: w :: r => Nat.beq (zcat v) 1 && (Nat.beq (zcat w) 1 && K (pc + 1, L, v :: w :: v :: w :: r, h, nc, ns))
    | _ => false)
  | .dup_x1 => (match st with
    | v :: w :: r => Nat.beq (zcat v) 1 && (Nat.beq (zcat w) 1 && K (pc + 1, L, v :: w :: v :: r, h, nc, ns))
    | _ => false)
  | .pop => (match st with
    | v :: r => Nat.beq (zcat v) 1 && K (pc + 1, L, r, h, nc, ns)
    | _ => false)
  | .ifCond cd off => (match st with
    | x :: r => zisI x && zof pc off (fun t => zbr (zcond cd x (.inl (.int 0))) (K (t, L, r, h, nc, ns)) (K (pc + 3, L, r, h, nc, ns)))
    | _ => false)
  | .if_icmp cd off => (match st with
    | y :: x :: r => zisI x && (zisI y && zof pc off (fun t => zbr (zcond cd x y) (K (t, L, r, h, nc, ns)) (K (pc + 3, L, r, h, nc, ns))))
    | _ => false)
  | .goto off => zof pc off (fun t => K (t, L, st, h, nc, ns))
  | .ifnull off => (match st with
    | .inl .null :: r => zof pc off (fun t => K (t, L, r, h, nc, ns))
    | .inl (.ref _) :: r => K (pc + 3, L, r, h, nc, ns)
    | _ => false)
  | .ifnonnull off => (match st with
    | .inl (.ref _) :: r => zof pc off (fun t => K (t, L, r, h, nc, ns))
    | .inl .null :: r => K (pc + 3, L, r, h, nc, ns)
    | _ => false)
  | .tableswitch d lo hi offs => (match st with
    | x :: r => zisI x && (if zhi x < lo ∨ hi < zlo x then zof pc d (fun t => K (t, L, r, h, nc, ns)) else match x with
      | .inl (.int z) => !(decide (z.toInt < lo)) && (!(decide (hi < z.toInt)) && (match offs[(z.toInt - lo).toNat]? with
        | some off => zof pc off (fun t => K (t, L, r, h, nc, ns))
        | none => false))
      | _ => false)
    | _ => false)
  | .getfield _ => (match st with
    | .inl (.ref q) :: r => zrow h q a (fun fs => match fs[b]? with
      | some v => K (pc + 3, L, v :: r, h, nc, ns)
      | none => false)
    | _ => false)
  | .putfield _ => (match st with
    | v :: .inl (.ref q) :: r => zrow h q a (fun fs => Nat.blt b fs.length && (zfit c v && K (pc + 3, L, r, h.set q (a, fs.set b v), nc, ns)))
    | _ => false)
  | .new _ => Nat.ble (nc + 1) rc && (Nat.ble (ns + zN a) rs && (Nat.blt h.length 1000000 && K (pc + 3, L, .inl (.ref h.length) :: st, h ++ [(a, zdf a)], nc + 1, ns + zN a)))
  | .newarray ty => (match st with
    | .inl (.int n) :: r => if n < 0 then false else Nat.ble n.toNatClampNeg 65536 && (Nat.ble (nc + 1) rc && (Nat.ble (ns + n.toNatClampNeg) rs && (Nat.blt h.length 1000000 && (match ty with
      | .int => K (pc + 2, L, .inl (.ref h.length) :: r, h ++ [(10, List.replicate n.toNatClampNeg (.inl (.int 0)))], nc + 1, ns + n.toNatClampNeg)
      | .long => K (pc + 2, L, .inl (.ref h.length) :: r, h ++ [(11, List.replicate n.toNatClampNeg (.inl (.long 0)))], nc + 1, ns + n.toNatClampNeg)
      | .boolean => K (pc + 2, L, .inl (.ref h.length) :: r, h ++ [(15, List.replicate n.toNatClampNeg (.inl (.int 0)))], nc + 1, ns + n.toNatClampNeg)
      | _ => false))))
    | _ => false)
  | .anewarray _ => (match st with
    | .inl (.int n) :: r => if n < 0 then false else Nat.ble n.toNatClampNeg 65536 && (Nat.ble (nc + 1) rc && (Nat.ble (ns + n.toNatClampNeg) rs && (Nat.blt h.length 1000000 && K (pc + 3, L, .inl (.ref h.length) :: r, h ++ [(12, List.replicate n.toNatClampNeg (.inl .null))], nc + 1, ns + n.toNatClampNeg))))
    | _ => false)
  | .multianewarray _ _ => (match st with
    | .inl (.int k) :: .inl (.int n) :: r => if n < 0 then false else if k < 0 then false else Nat.ble n.toNatClampNeg 1000 && (Nat.ble k.toNatClampNeg 1000 && (Nat.ble (nc + 1 + n.toNatClampNeg) rc && (Nat.ble (ns + n.toNatClampNeg + n.toNatClampNeg * k.toNatClampNeg) rs && (Nat.blt (h.length + n.toNatClampNeg) 1000000 && (match a with
      | 1 => K (pc + 4, L, .inl (.ref h.length) :: r, h ++ ((13, (List.range n.toNatClampNeg).map (fun i => .inl (.ref (h.length + 1 + i)))) :: List.replicate n.toNatClampNeg (11, List.replicate k.toNatClampNeg (.inl (.long 0)))), nc + 1 + n.toNatClampNeg, ns + n.toNatClampNeg + n.toNatClampNeg * k.toNatClampNeg)
      | 0 => K (pc + 4, L, .inl (.ref h.length) :: r, h ++ ((14, (List.range n.toNatClampNeg).map (fun i => .inl (.ref (h.length + 1 + i)))) :: List.replicate n.toNatClampNeg (10, List.replicate k.toNatClampNeg (.inl (.int 0)))), nc + 1 + n.toNatClampNeg, ns + n.toNatClampNeg + n.toNatClampNeg * k.toNatClampNeg)
      | _ => false)))))
    | _ => false)
  | .iaload => (match st with
    | .inl (.int i) :: .inl (.ref q) :: r => if q = 10000000 then zel scr i (fun v => K (pc + 1, L, v :: r, h, nc, ns)) else if q = 10000001 then zel zund i (fun v => K (pc + 1, L, v :: r, h, nc, ns)) else zrow h q 10 (fun vs => zel vs i (fun v => K (pc + 1, L, v :: r, h, nc, ns)))
    | _ => false)
  | .laload => (match st with
    | .inl (.int i) :: .inl (.ref q) :: r => zrow h q 11 (fun vs => zel vs i (fun v => K (pc + 1, L, v :: r, h, nc, ns)))
    | _ => false)
  | .aaload => (match st with
    | .inl (.int i) :: .inl (.ref q) :: r => (match h[q]? with
      | some x => Nat.blt q 1000000 && (Nat.ble 12 x.1 && (Nat.ble x.1 14 && zel x.2 i (fun v => K (pc + 1, L, v :: r, h, nc, ns))))
      | none => false)
    | _ => false)
  | .baload => (match st with
    | .inl (.int i) :: .inl (.ref q) :: r => zrow h q 15 (fun vs => zel vs i (fun v => K (pc + 1, L, v :: r, h, nc, ns)))
    | _ => false)
  | .bastore => (match st with
    | .inl (.int x) :: .inl (.int i) :: .inl (.ref q) :: r => zrow h q 15 (fun vs => zix vs i && K (pc + 1, L, r, h.set q (15, vs.set i.toNatClampNeg (.inl (.int (x &&& 1)))), nc, ns))
    | _ => false)
  | .getstatic _ => K (pc + 3, L, .inl (.ref 10000001) :: st, h, nc, ns)
  | .iastore => (match st with
    | v :: .inl (.int i) :: .inl (.ref q) :: r => zisI v && zrow h q 10 (fun vs => zix vs i && K (pc + 1, L, r, h.set q (10, vs.set i.toNatClampNeg v), nc, ns))
    | _ => false)
  | .lastore => (match st with
    | v :: .inl (.int i) :: .inl (.ref q) :: r => zisL v && zrow h q 11 (fun vs => zix vs i && K (pc + 1, L, r, h.set q (11, vs.set i.toNatClampNeg v), nc, ns))
    | _ => false)
  | .aastore => (match st with
    | .inl (.ref o) :: .inl (.int i) :: .inl (.ref q) :: r => zrow h o 0 (fun _ => zrow h q 12 (fun vs => zix vs i && K (pc + 1, L, r, h.set q (12, vs.set i.toNatClampNeg (.inl (.ref o))), nc, ns)))
    | _ => false)
  | .arraylength => (match st with
    | .inl (.ref q) :: r => if q = 10000000 then K (pc + 1, L, .inl (.int (Int32.ofNat scr.length)) :: r, h, nc, ns) else (match h[q]? with
      | some x => Nat.blt q 1000000 && (Nat.ble 10 x.1 && K (pc + 1, L, .inl (.int (Int32.ofNat x.2.length)) :: r, h, nc, ns))
      | none => false)
    | _ => false)
  | .ldc _ => K (pc + 2, L, cv :: st, h, nc, ns)
  | .ldc_w _ => K (pc + 3, L, cv :: st, h, nc, ns)
  | .ldc2_w _ => K (pc + 3, L, cv :: st, h, nc, ns)
  | .invokevirtual _ => (match b with
    | 0 => zcalv prog cc a st h nc ns rc rs (fun st' h' nc' ns' => K (pc + 3, L, st', h', nc', ns'))
    | 8 => (match st with
      | .inl (.ref q) :: r => (match slen q with
        | some x => Nat.ble (zsum r) 8 && K (pc + 3, L, .inl (.int x) :: r, h, nc, ns)
        | none => false)
      | _ => false)
    | 11 => (match st with
      | .inl (.int i) :: .inl (.ref q) :: r => (match zsch q i with
        | some x => Nat.ble (zsum r) 8 && K (pc + 3, L, .inl (.int x) :: r, h, nc, ns)
        | none => false)
      | _ => false)
    | _ => false)
  | .invokespecial _ => (match b with
    | 6 => (match st with
      | .inl (.ref _) :: r => Nat.ble (zsum r) 8 && K (pc + 3, L, r, h, nc, ns)
      | _ => false)
    | _ => zcalv prog cc a st h nc ns rc rs (fun st' h' nc' ns' => K (pc + 3, L, st', h', nc', ns')))
  | .invokestatic _ => (match b with
    | 7 => (match st with
      | .inl (.int n) :: .inl (.int dp) :: .inl (.ref q1) :: .inl (.int sp) :: .inl (.ref q0) :: [] => if n < 0 then false else if dp < 0 then false else if sp < 0 then false else zrow h q0 10 (fun f => zrow h q1 10 (fun g => Nat.ble (sp.toNatClampNeg + n.toNatClampNeg) f.length && (Nat.ble (dp.toNatClampNeg + n.toNatClampNeg) g.length && K (pc + 3, L, [], h.set q1 (10, zcpy f g sp.toNatClampNeg dp.toNatClampNeg n.toNatClampNeg), nc, ns))))
      | _ => false)
    | 9 => (match st with
      | .inl (.int y) :: .inl (.int x) :: r => Nat.ble (zsum r) 8 && K (pc + 3, L, .inl (.int (if y < x then y else x)) :: r, h, nc, ns)
      | _ => false)
    | 10 => (match st with
      | .inl (.int y) :: .inl (.int x) :: r => Nat.ble (zsum r) 8 && K (pc + 3, L, .inl (.int (if x < y then y else x)) :: r, h, nc, ns)
      | _ => false)
    | 12 => (match st with
      | .inl (.int n) :: .inl (.int dp) :: .inl (.ref q1) :: .inl (.int sp) :: .inl (.ref q0) :: [] => if n < 0 then false else if dp < 0 then false else if sp < 0 then false else zrow h q0 11 (fun f => zrow h q1 11 (fun g => Nat.ble (sp.toNatClampNeg + n.toNatClampNeg) f.length && (Nat.ble (dp.toNatClampNeg + n.toNatClampNeg) g.length && K (pc + 3, L, [], h.set q1 (11, zcpy f g sp.toNatClampNeg dp.toNatClampNeg n.toNatClampNeg), nc, ns))))
      | _ => false)
    | _ => zcall prog cc a st h nc ns rc rs (fun st' h' nc' ns' => K (pc + 3, L, st', h', nc', ns')))
  | _ => false
def zret (ret : Option FieldType) (ins : Instr) (st : List zV) (h : zH) (post : Option zV → zH → Bool) : Bool := match ins, st with
  | .ireturn, [v] => (match ret with
    | some .int => zisI v && post (some v) h
    | some .boolean => zfit 3 v && post (some v) h
    | _ => false)
  | .lreturn, [v] => decide (ret = some .long) && (zisL v && post (some v) h)
  | .areturn, [v] => (match ret with
    | some (.object _) => zisR v && post (some v) h
    | _ => false)
  | .return_, [] => decide (ret = none) && post none h
  | _, _ => false
def zisRet : Instr → Bool
  | .ireturn => true
  | .lreturn => true
  | .areturn => true
  | .return_ => true
  | _ => false
noncomputable def zrun (zN : Nat → Nat) (zdf : Nat → List zV) (slen : Nat → Option Int32) (prog : Nat → Option zE) (E : zE) (scr : List zV) (rc rs : Nat) (cc : zK) (fin : Nat → zS → Bool) (post : Option zV → zH → Bool) (n : Nat) : zS → Bool :=
  Nat.rec (fun _ => false) (fun _ ih x => if fin x.1 x then true else match zft (zEd E) x.1 with
    | some i => if zisRet i.1 then zret E.2.2.2.1 i.1 x.2.2.1 x.2.2.2.1 post else zstep zN zdf slen prog (zEm E) rc rs scr cc ih i.1 i.2.1 i.2.2.1 i.2.2.2.1 i.2.2.2.2.1 x.1 x.2.1 x.2.2.1 x.2.2.2.1 x.2.2.2.2.1 x.2.2.2.2.2
    | none => false) n
def zarg : Nat → List zV → zL
  | _, [] => []
  | i, v :: vs => (i, v) :: zarg (if zcat v = 2 then i + 2 else i + 1) vs
noncomputable def zdeep (zN : Nat → Nat) (zdf : Nat → List zV) (slen : Nat → Option Int32) (prog : Nat → Option zE) (scr : List zV) (d : Nat) : zK :=
  Nat.rec (fun _ _ _ _ => false) (fun _ ih j vs h post => match prog j with
    | some E => Nat.ble (zsum vs) (zEm E) && zrun zN zdf slen prog E scr (zEc E) (zEs E) ih (fun _ _ => false) post 20000 (0, zarg 0 vs, [], h, 0, 0)
    | none => false) d
