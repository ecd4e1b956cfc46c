def tslot (s : tSl) (K : tA → Bool) : Bool := match s.1 with
  | 0 => K (tI s.2.1 s.2.2.1)
  | 1 => K tLf
  | 4 => K (tR s.2.2.2.1)
  | _ => false
def tfits (s : tSl) (c : Nat) (v : tA) : Bool := s.2.2.2.2 && (match s.1 with
  | 0 => tint v && (decide (s.2.1 ≤ tlo v) && (decide (thi v ≤ s.2.2.1) && (Nat.beq c 0 || (Nat.beq c 3 && (decide (0 ≤ tlo v) && decide (thi v ≤ 1))))))
  | 1 => tlong v && Nat.beq c 1
  | _ => false)
def tidx (ty : Nat → tTy) (tag : Nat) (r i : tA) (K : tSl → Bool) : Bool := tref r && (tint i && (Nat.beq (ty (taux r)).1 tag && (decide (0 ≤ tlo i) && (decide (thi i < ((ty (taux r)).2.1 : Int)) && K ((ty (taux r)).2.2 0)))))
def tbin (st : List tA) (f : tA → tA → tA) (K : List tA → Bool) : Bool := match st with
  | b :: a :: r => tint a && (tint b && K (f a b :: r))
  | _ => false
def tbinL (st : List tA) (K : List tA → Bool) : Bool := match st with
  | b :: a :: r => tlong a && (tlong b && K (tLf :: r))
  | _ => false
def tshL (st : List tA) (K : List tA → Bool) : Bool := match st with
  | b :: a :: r => tlong a && (tint b && K (tLf :: r))
  | _ => false
def tun (st : List tA) (f : tA → tA) (K : List tA → Bool) : Bool := match st with
  | a :: r => tint a && K (f a :: r)
  | _ => false
def tst (fx : List Nat) (nL k : Nat) (P : tA → Bool) (st : List tA) (aL : tL) (K : tL → List tA → Bool) : Bool := match st with
  | a :: r => P a && (Nat.blt k nL && (!(fx.contains k) && K (tput aL k a) (tfog k r)))
  | _ => false
def tst2 (fx : List Nat) (nL k : Nat) (st : List tA) (aL : tL) (K : tL → List tA → Bool) : Bool := match st with
  | a :: r => tlong a && (Nat.blt (k + 1) nL && (!(fx.contains k) && (!(fx.contains (k + 1)) && K (tput2 aL k a) (tfog k (tfog (k + 1) r)))))
  | _ => false
def tld (P : tA → Bool) (aL : tL) (k : Nat) (K : tA → Bool) : Bool := match tget aL k with
  | some a => P a && K (tpush k a)
  | none => false
def tisR (a : tA) : Bool := Nat.beq a.1 2 || Nat.beq a.1 4
def tbr (cd : ClassFile.Cond) (aL : tL) (a b : tA) (cs : tC) (K : tL → Bool) : Bool := tcmp cd aL a b (fun aL' => tcutC cs aL' K)
def tsw (aL : tL) (a : tA) (pc : Nat) (lo : Int) (offs : List Int) (K : Nat → tL → Bool) : Nat → Bool := fun i => match offs with
  | [] => true
  | o :: os => (if lo + (i : Int) ≤ thi a ∧ tlo a ≤ lo + (i : Int) then zof pc o (fun t => tcutA aL a (lo + (i : Int)) (lo + (i : Int)) (fun aL' => K t aL')) else true) && tsw aL a pc lo os K (i + 1)
def tstep (ty : Nat → tTy) (tB : Nat) (prog : Nat → Option zE) (sm : Nat → List tE) (hts : Nat → Nat) (fx : List Nat) (D0 nL rc rs : Nat) (K : tK) (ins : Instr) (cv : zV) (a b c pc : Nat) (aL : tL) (st : List tA) (nc ns : Nat) : Bool :=
  match ins with
  | .iconst n => K (pc + 1) aL (tI (Int32.ofInt n).toInt (Int32.ofInt n).toInt :: st) nc ns
  | .bipush n => K (pc + 2) aL (tI (Int8.ofInt n).toInt32.toInt (Int8.ofInt n).toInt32.toInt :: st) nc ns
  | .sipush n => K (pc + 3) aL (tI (Int16.ofInt n).toInt32.toInt (Int16.ofInt n).toInt32.toInt :: st) nc ns
  | .lconst n => K (pc + 1) aL ((1, (Int64.ofNat (n : Nat)).toInt, (Int64.ofNat (n : Nat)).toInt, 0, []) :: st) nc ns
  | .iload_n k => tld tint aL k.val (fun v => K (pc + 1) aL (v :: st) nc ns)
  | .iload k => tld tint aL k (fun v => K (pc + 2) aL (v :: st) nc ns)
  | .lload_n k => tld tlong aL k.val (fun v => K (pc + 1) aL (v :: st) nc ns)
  | .lload k => tld tlong aL k (fun v => K (pc + 2) aL (v :: st) nc ns)
  | .aload_n k => tld tisR aL k.val (fun v => K (pc + 1) aL (v :: st) nc ns)
  | .aload k => tld tisR aL k (fun v => K (pc + 2) aL (v :: st) nc ns)
  | .istore_n k => tst fx nL k.val tint st aL (fun aL' r => K (pc + 1) aL' r nc ns)
  | .istore k => tst fx nL k tint st aL (fun aL' r => K (pc + 2) aL' r nc ns)
  | .astore_n k => tst fx nL k.val tisR st aL (fun aL' r => K (pc + 1) aL' r nc ns)
  | .astore k => tst fx nL k tisR st aL (fun aL' r => K (pc + 2) aL' r nc ns)
  | .lstore_n k => tst2 fx nL k.val st aL (fun aL' r => K (pc + 1) aL' r nc ns)
  | .lstore k => tst2 fx nL k st aL (fun aL' r => K (pc + 2) aL' r nc ns)
  | .iinc k n => (match tget aL k with
    | some v => tint v && (Nat.blt k nL && (!(fx.contains k) && K (pc + 3) (tput aL k (tadd v (tI (Int32.ofInt n).toInt (Int32.ofInt n).toInt))) (tfog k st) nc ns))
    | none => false)
  | .iadd => tbin st tadd (fun st' => K (pc + 1) aL st' nc ns)
  | .isub => tbin st tsub (fun st' => K (pc + 1) aL st' nc ns)
  | .imul => tbin st tmul (fun st' => K (pc + 1) aL st' nc ns)
  | .iand => tbin st tand (fun st' => K (pc + 1) aL st' nc ns)
  | .ior => tbin st tor (fun st' => K (pc + 1) aL st' nc ns)
  | .ixor => tbin st (fun _ _ => tIf) (fun st' => K (pc + 1) aL st' nc ns)
  | .ishl => tbin st tshl (fun st' => K (pc + 1) aL st' nc ns)
  | .ishr => tbin st (fun x _ => tshr x) (fun st' => K (pc + 1) aL st' nc ns)
  | .iushr => tbin st (fun _ _ => tIf) (fun st' => K (pc + 1) aL st' nc ns)
  | .idiv => (match st with
    | y :: x :: r => tint x && (tint y && (decide (1 ≤ tlo y) && K (pc + 1) aL (tdiv x y :: r) nc ns))
    | _ => false)
  | .irem => (match st with
    | y :: x :: r => tint x && (tint y && (decide (1 ≤ tlo y) && K (pc + 1) aL (trem x y :: r) nc ns))
    | _ => false)
  | .ineg => tun st (fun x => tIc (-thi x) (-tlo x)) (fun st' => K (pc + 1) aL st' nc ns)
  | .ladd => tbinL st (fun st' => K (pc + 1) aL st' nc ns)
  | .lsub => tbinL st (fun st' => K (pc + 1) aL st' nc ns)
  | .lmul => tbinL st (fun st' => K (pc + 1) aL st' nc ns)
  | .land => tbinL st (fun st' => K (pc + 1) aL st' nc ns)
  | .lor => tbinL st (fun st' => K (pc + 1) aL st' nc ns)
  | .lxor => tbinL st (fun st' => K (pc + 1) aL st' nc ns)
  | .lshl => tshL st (fun st' => K (pc + 1) aL st' nc ns)
  | .lushr => tshL st (fun st' => K (pc + 1) aL st' nc ns)
  | .ldiv => (match st with
    | y :: x :: r => tlong x && (tlong y && (decide (1 ≤ tlo y) && K (pc + 1) aL (tLf :: r) nc ns))
    | _ => false)
  | .i2l => (match st with
    | x :: r => tint x && K (pc + 1) aL ((1, tlo x, thi x, taux x, []) :: r) nc ns
    | _ => false)
  | .l2i => (match st with
    | x :: r => tlong x && K (pc + 1) aL (tl2i x :: r) nc ns
    | _ => false)
  | .i2b => tun st (fun _ => tI (-128) 127) (fun st' => K (pc + 1) aL st' nc ns)
  | .i2s => tun st (fun _ => tI (-32768) 32767) (fun st' => K (pc + 1) aL st' nc ns)
  | .lcmp => (match st with
    | y :: x :: r => tlong x && (tlong y && K (pc + 1) aL (tI (-1) 1 :: r) nc ns)
    | _ => false)
  | .dup => (match st with
    | x :: r => !(tlong x) && K (pc + 1) aL (x :: x :: r) nc ns
    | _ => false)
  | .dup2 => (match st with
    | x :: y :: r => !(tlong x) && (!(tlong y) && K (pc + 1) aL (x :: y :: x :: y :: r) nc ns)
    | _ => false)
  | .dup_x1 => (match st with
    | x :: y :: r => !(tlong x) && (!(tlong y) && K (pc + 1) aL (x :: y :: x :: r) nc ns)
    | _ => false)
  | .pop => (match st with
    | x :: r => !(tlong x) && K (pc + 1) aL r nc ns
    | _ => false)
  | .ifCond cd off => (match st with
    | x :: r => tint x && zof pc off (fun t => tbr cd aL x (tI 0 0) (tknow cd x) (fun aL' => K t aL' r nc ns) && tbr (tneg cd) aL x (tI 0 0) (tknow (tneg cd) x) (fun aL' => K (pc + 3) aL' r nc ns))
    | _ => false)
  | .if_icmp cd off => (match st with
    | y :: x :: r => tint x && (tint y && zof pc off (fun t => tbr cd aL x y [] (fun aL' => K t aL' r nc ns) && tbr (tneg cd) aL x y [] (fun aL' => K (pc + 3) aL' r nc ns)))
    | _ => false)
  | .goto off => zof pc off (fun t => K t aL st nc ns)
  | .tableswitch d lo hi offs => (match st with
    | x :: r => tint x && (decide (hi - lo < (offs.size : Int)) && ((if tlo x < lo ∨ hi < thi x then zof pc d (fun t => K t aL r nc ns) else true) && tsw aL x pc lo offs.toList (fun t aL' => K t aL' r nc ns) 0))
    | _ => false)
  | .getfield _ => (match st with
    | x :: r => tref x && (Nat.beq (ty (taux x)).1 a && (Nat.blt b (ty (taux x)).2.1 && tslot ((ty (taux x)).2.2 b) (fun v => K (pc + 3) aL (v :: r) nc ns)))
    | _ => false)
  | .putfield _ => (match st with
    | v :: x :: r => tref x && (Nat.beq (ty (taux x)).1 a && (Nat.blt b (ty (taux x)).2.1 && (tfits ((ty (taux x)).2.2 b) c v && K (pc + 3) aL r nc ns)))
    | _ => false)
  | .newarray .boolean => (match st with
    | n :: r => tint n && (decide (tlo n = ((ty tB).2.1 : Int)) && (decide (thi n = ((ty tB).2.1 : Int)) && (Nat.ble (nc + 1) rc && (Nat.ble (ns + (ty tB).2.1) rs && K (pc + 2) aL (tR tB :: r) (nc + 1) (ns + (ty tB).2.1)))))
    | _ => false)
  | .iaload => (match st with
    | i :: x :: r => if Nat.beq x.1 4 then Nat.beq (taux x) 10000001 && (tint i && (decide (0 ≤ tlo i) && (decide (thi i ≤ 5) && K (pc + 1) aL (tI (-1) 4 :: r) nc ns))) else tidx ty 10 x i (fun s => tslot s (fun v => tint v && K (pc + 1) aL (v :: r) nc ns))
    | _ => false)
  | .laload => (match st with
    | i :: x :: r => tidx ty 11 x i (fun s => tslot s (fun v => tlong v && K (pc + 1) aL (v :: r) nc ns))
    | _ => false)
  | .baload => (match st with
    | i :: x :: r => tidx ty 15 x i (fun s => tslot s (fun v => tint v && K (pc + 1) aL (v :: r) nc ns))
    | _ => false)
  | .aaload => (match st with
    | i :: x :: r => (Nat.ble 12 (ty (taux x)).1 && Nat.ble (ty (taux x)).1 14) && tidx ty (ty (taux x)).1 x i (fun s => tslot s (fun v => tref v && K (pc + 1) aL (v :: r) nc ns))
    | _ => false)
  | .iastore => (match st with
    | v :: i :: x :: r => tidx ty 10 x i (fun s => tfits s 0 v && (tint v && K (pc + 1) aL r nc ns))
    | _ => false)
  | .lastore => (match st with
    | v :: i :: x :: r => tidx ty 11 x i (fun s => tfits s 1 v && (tlong v && K (pc + 1) aL r nc ns))
    | _ => false)
  | .bastore => (match st with
    | v :: i :: x :: r => tidx ty 15 x i (fun s => s.2.2.2.2 && (Nat.beq s.1 0 && (decide (s.2.1 ≤ 0) && (decide (1 ≤ s.2.2.1) && (tint v && K (pc + 1) aL r nc ns)))))
    | _ => false)
  | .arraylength => (match st with
    | x :: r => tref x && (Nat.ble 10 (ty (taux x)).1 && (Nat.ble (ty (taux x)).2.1 1000000 && K (pc + 1) aL (tI ((ty (taux x)).2.1 : Int) ((ty (taux x)).2.1 : Int) :: r) nc ns))
    | _ => false)
  | .ldc _ => (match cv with
    | .inl (.int x) => K (pc + 2) aL (tI x.toInt x.toInt :: st) nc ns
    | .inl (.ref k) => K (pc + 2) aL (tX k :: st) nc ns
    | _ => false)
  | .ldc_w _ => (match cv with
    | .inl (.int x) => K (pc + 3) aL (tI x.toInt x.toInt :: st) nc ns
    | _ => false)
  | .ldc2_w _ => (match cv with
    | .inl (.long x) => K (pc + 3) aL ((1, x.toInt, x.toInt, 0, []) :: st) nc ns
    | _ => false)
  | .getstatic _ => K (pc + 3) aL (tX 10000001 :: st) nc ns
  | .invokevirtual _ => (match b with
    | 0 => (match prog a with
      | some E => Nat.ble (zEp E) st.length && (match st.drop (zEp E) with
        | x :: r => tref x && (Nat.beq (ty (taux x)).1 (zEk E) && tcall prog sm hts D0 rc rs a E (x :: (st.take (zEp E)).reverse) r nc ns (fun st' nc' ns' => K (pc + 3) aL st' nc' ns'))
        | [] => false)
      | none => false)
    | _ => false)
  | .invokestatic _ => (match b with
    | 7 => (match st with
      | [n, dp, r1, sp, r0] => tint n && (tint dp && (tint sp && (tref r1 && (tref r0 && (Nat.beq (ty (taux r0)).1 10 && (Nat.beq (ty (taux r1)).1 10 && (decide (0 ≤ tlo n) && (decide (0 ≤ tlo dp) && (decide (0 ≤ tlo sp) && (decide (thi sp + thi n ≤ ((ty (taux r0)).2.1 : Int)) && (decide (thi dp + thi n ≤ ((ty (taux r1)).2.1 : Int)) && (tslot ((ty (taux r0)).2.2 0) (fun v => tfits ((ty (taux r1)).2.2 0) 0 v) && K (pc + 3) aL [] nc ns))))))))))))
      | _ => false)
    | 9 => (match st with
      | y :: x :: r => tint x && (tint y && (Nat.ble (tsum r) 8 && K (pc + 3) aL (tmin x y :: r) nc ns))
      | _ => false)
    | 10 => (match st with
      | y :: x :: r => tint x && (tint y && (Nat.ble (tsum r) 8 && K (pc + 3) aL (tmax x y :: r) nc ns))
      | _ => false)
    | 12 => false
    | _ => (match prog a with
      | some E => Nat.ble (zEp E) st.length && tcall prog sm hts D0 rc rs a E ((st.take (zEp E)).reverse) (st.drop (zEp E)) nc ns (fun st' nc' ns' => K (pc + 3) aL st' nc' ns')
      | none => false))
  | _ => false
def tretc (aL : tL) (a : tA) (c : Nat × Int × Int) : Bool := decide (thi a ≤ 0) && decide (0 ≤ tlo a) || ((match tget aL c.1 with
  | some v => tint v && (decide (c.2.1 ≤ tlo v) && decide (thi v ≤ c.2.2))
  | none => false) || (tcnd a).any (fun k => Nat.beq k.1 c.1 && (decide (c.2.1 ≤ k.2.1) && decide (k.2.2 ≤ c.2.2))))
def tret (ret : Option FieldType) (fx : List Nat) (e : tE) (ins : Instr) (aL : tL) (st : List tA) : Bool := match ins, st with
  | .ireturn, [a] => (match ret with
    | some .int => true
    | some .boolean => decide (0 ≤ tlo a) && decide (thi a ≤ 1)
    | _ => false) && (tint a && (Nat.beq e.2.1 1 && (tle a e.2.2.1 && e.2.2.2.all (fun c => fx.contains c.1 && tretc aL a c))))
  | .lreturn, [a] => decide (ret = some .long) && (tlong a && (Nat.beq e.2.1 1 && (tle a e.2.2.1 && e.2.2.2.isEmpty)))
  | .return_, [] => decide (ret = none) && Nat.beq e.2.1 0
  | _, _ => false
abbrev tCut : Type := Nat × tL × Nat × Nat
def tmt (rest : List tCut) (pc : Nat) (nc ns : Nat) (aL : tL) : Bool := rest.any (fun c => Nat.beq c.1 pc && (Nat.beq nc c.2.2.1 && (Nat.beq ns c.2.2.2 && tleL aL c.2.1)))
def tfin (heads : List Nat) (sp : Nat → Option (Nat × Int × Int)) (rest : List tCut) (pc : Nat) (aL : tL) (st : List tA) (nc ns : Nat) : Bool := heads.contains pc && (st.isEmpty && (match sp pc with
  | some q => (match tget aL q.1 with
    | some v => tint v && (tcutO aL q.1 (-2147483648) (q.2.1 - 1) (tmt rest pc nc ns) && (tcutO aL q.1 (q.2.2 + 1) 2147483647 (tmt rest pc nc ns) && (List.range (min (thi v) q.2.2 - max (tlo v) q.2.1 + 1).toNat).all (fun i => tcutO aL q.1 (max (tlo v) q.2.1 + (i : Int)) (max (tlo v) q.2.1 + (i : Int)) (tmt rest pc nc ns))))
    | none => false)
  | none => tmt rest pc nc ns aL))
def tone (ty : Nat → tTy) (tB : Nat) (prog : Nat → Option zE) (sm : Nat → List tE) (hts : Nat → Nat) (fx : List Nat) (D0 : Nat) (E : zE) (e : tE) (K : tK) : tK := fun pc aL st nc ns => match zft (zEd E) pc with
  | some i => if zisRet i.1 then tret E.2.2.2.1 fx e i.1 aL st else tstep ty tB prog sm hts fx D0 (zEm E) (zEc E) (zEs E) K i.1 i.2.1 i.2.2.1 i.2.2.2.1 i.2.2.2.2.1 pc aL st nc ns
  | none => false
def trun (ty : Nat → tTy) (tB : Nat) (prog : Nat → Option zE) (sm : Nat → List tE) (hts : Nat → Nat) (fx : List Nat) (D0 : Nat) (E : zE) (e : tE) (fin : tK) (n : Nat) : tK :=
  Nat.rec (fun _ _ _ _ _ => false) (fun _ ih pc aL st nc ns => if fin pc aL st nc ns then true else tone ty tB prog sm hts fx D0 E e ih pc aL st nc ns) n
def tchk (ty : Nat → tTy) (tB : Nat) (prog : Nat → Option zE) (sm : Nat → List tE) (hts : Nat → Nat) (fx : List Nat) (D0 : Nat) (E : zE) (e : tE) (heads : List Nat) (sp : Nat → Option (Nat × Int × Int)) (fuel : Nat) : List tCut → Bool
  | [] => true
  | c :: rest => tone ty tB prog sm hts fx D0 E e (trun ty tB prog sm hts fx D0 E e (tfin heads sp rest) fuel) c.1 c.2.1 [] c.2.2.1 c.2.2.2 && tchk ty tB prog sm hts fx D0 E e heads sp fuel rest
