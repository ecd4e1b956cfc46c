def zNf : Nat → Nat
  | 0 => 3
  | 1 => 17
  | 2 => 6
  | 3 => 7
  | 4 => 8
  | _ => 41
def zTf : Nat → u_T
  | 0 => TX0
  | 1 => TX1
  | 2 => TX2
  | 3 => TX3
  | 4 => TX4
  | _ => TX5
def zRf : Nat → String
  | 0 => RX0
  | 1 => RX1
  | 2 => RX2
  | 3 => RX3
  | 4 => RX4
  | _ => RX5
def zTy : Nat → Nat → FieldType
  | 0 => tyX0
  | 1 => tyX1
  | 2 => tyX2
  | 3 => tyX3
  | 4 => tyX4
  | _ => tyX5
def zdfl (a : Nat) : List zV := (List.range (zNf a)).map (fun k => zdef (zTy a k))
theorem z_cl {a : Nat} (h : a < 6) : vwCl[a]? = some (zRf a, zTf a, zNf a) := by
  match a, h with
  | 0, _ => rfl
  | 1, _ => rfl
  | 2, _ => rfl
  | 3, _ => rfl
  | 4, _ => rfl
  | 5, _ => rfl
theorem z_nm {a : Nat} (h : a < 6) : ∀ i, i < zNf a → ∀ j, j < zNf a → i ≠ j → (zTf a i).2.1 ≠ (zTf a j).2.1 := by
  match a, h with
  | 0, _ => exact nmX0
  | 1, _ => exact nmX1
  | 2, _ => exact nmX2
  | 3, _ => exact nmX3
  | 4, _ => exact nmX4
  | 5, _ => exact nmX5
theorem z_ty {a : Nat} (h : a < 6) : ∀ k, k < zNf a → parseFieldDescriptor (zTf a k).2.2.1 = some (zTy a k) := by
  match a, h with
  | 0, _ => exact tyX0_ok
  | 1, _ => exact tyX1_ok
  | 2, _ => exact tyX2_ok
  | 3, _ => exact tyX3_ok
  | 4, _ => exact tyX4_ok
  | 5, _ => exact tyX5_ok
def zuws : List Cond := u_ws RX0 TX0 3 ++ (u_ws RX1 TX1 17 ++ (u_ws RX2 TX2 6 ++ (u_ws RX3 TX3 7 ++ (u_ws RX4 TX4 8 ++ u_ws RX5 TX5 41))))
theorem z_uws {a : Nat} (h : a < 6) : ∀ w ∈ u_ws (zRf a) (zTf a) (zNf a), w ∈ zuws := by
  intro w hw
  unfold zuws
  match a, h with
  | 0, _ => exact List.mem_append_left _ hw
  | 1, _ => exact List.mem_append_right _ (List.mem_append_left _ hw)
  | 2, _ => exact List.mem_append_right _ (List.mem_append_right _ (List.mem_append_left _ hw))
  | 3, _ => exact List.mem_append_right _ (List.mem_append_right _ (List.mem_append_right _ (List.mem_append_left _ hw)))
  | 4, _ => exact List.mem_append_right _ (List.mem_append_right _ (List.mem_append_right _ (List.mem_append_right _ (List.mem_append_left _ hw))))
  | 5, _ => exact List.mem_append_right _ (List.mem_append_right _ (List.mem_append_right _ (List.mem_append_right _ (List.mem_append_right _ hw))))
def ztyA : Nat → FieldType
  | 0 => .int
  | 1 => .long
  | 2 => .object RX0
  | 3 => .array .long
  | 4 => .array .int
  | _ => .boolean
def ztys (ct : Nat → ClassId) : List (ClassId × FieldType) := [(ct 0, .int), (ct 1, .long), (ct 2, .object RX0), (ct 3, .array .long), (ct 4, .array .int), (ct 5, .boolean)]
theorem z_tys (ct : Nat → ClassId) {t : Nat} (h : t < 6) : (ztys ct)[t]? = some (ct t, ztyA t) := by
  match t, h with
  | 0, _ => rfl
  | 1, _ => rfl
  | 2, _ => rfl
  | 3, _ => rfl
  | 4, _ => rfl
  | 5, _ => rfl
def zlen : Instr → Nat
  | .bipush _ => 2
  | .sipush _ => 3
  | .iload _ => 2
  | .lload _ => 2
  | .aload _ => 2
  | .istore _ => 2
  | .lstore _ => 2
  | .astore _ => 2
  | .iinc _ _ => 3
  | .ifCond _ _ => 3
  | .if_icmp _ _ => 3
  | .goto _ => 3
  | .ifnull _ => 3
  | .ifnonnull _ => 3
  | .getfield _ => 3
  | .getstatic _ => 3
  | .putfield _ => 3
  | .new _ => 3
  | .newarray _ => 2
  | .anewarray _ => 3
  | .multianewarray _ _ => 4
  | .ldc _ => 2
  | .ldc_w _ => 3
  | .ldc2_w _ => 3
  | .invokevirtual _ => 3
  | .invokespecial _ => 3
  | .invokestatic _ => 3
  | _ => 1
def zdec (bs : ByteArray) (pc : Nat) (ins : Instr) : Bool := match ins with
  | .tableswitch _ _ _ _ => (match decode bs pc with
    | .ok q => decide (q.1 = ins)
    | .error _ => false)
  | _ => decide (decode bs pc = .ok (ins, zlen ins))
abbrev zySL : MethodName := ⟨"java/lang/String", "length", "()I"⟩
abbrev zySC : MethodName := ⟨"java/lang/String", "charAt", "(I)C"⟩
abbrev zyOI : MethodName := objectInit
def zarrT : Nat → FieldType
  | 1 => .long
  | _ => .int
def zwords (prog : Nat → Option zE) (own : String) (ins : Instr) (cv : zV) (a b : Nat) : List Cond := match ins with
  | .getfield ix => [.fieldLink own ix (zRf a) (zTf a b).2.1 (zTf a b).2.2.1]
  | .putfield ix => [.fieldLink own ix (zRf a) (zTf a b).2.1 (zTf a b).2.2.1]
  | .new ix => [.classLink own ix (zRf a), .instantiable (zRf a) (zNf a), .initialized (zRf a)]
  | .ldc ix => (match cv with
    | .inl (.int x) => [.constant own ix x]
    | _ => [])
  | .ldc_w ix => (match cv with
    | .inl (.int x) => [.constant own ix x]
    | _ => [])
  | .ldc2_w ix => (match cv with
    | .inl (.long x) => [.constantLong own ix x]
    | _ => [])
  | .getstatic ix => [.fieldLink own ix "EndsInFive" "UNDER" "[I"]
  | .newarray t => [.arrayClass (newarray.typeOf t)]
  | .anewarray ix => [.classLink own ix RX0]
  | .multianewarray ix _ => [.classLink own ix ("[" ++ (FieldType.array (zarrT a)).toString), .arrayClass (zarrT a)]
  | .invokevirtual ix => (match b with
    | 8 => [.methodLink own ix zySL]
    | 11 => [.methodLink own ix zySC]
    | _ => (match prog a with
      | some E => [.methodLink own ix E.1]
      | none => []))
  | .invokespecial ix => (match b with
    | 6 => [.methodLink own ix zyOI]
    | 1 => []
    | _ => (match prog a with
      | some E => [.methodLink own ix E.1]
      | none => []))
  | .invokestatic ix => (match b with
    | 7 => [.methodLink own ix arraycopyName]
    | 9 => [.methodLink own ix Lib.Math.min.name]
    | 10 => [.methodLink own ix Lib.Math.max.name]
    | 12 => [.methodLink own ix arraycopyName]
    | 1 => []
    | _ => (match prog a with
      | some E => [.methodLink own ix E.1]
      | none => []))
  | _ => []
def zhost : String := "EndsInFive"
def zwordsN (prog : Nat → Option zE) (own : String) (ins : Instr) (a b : Nat) : List Cond := match ins, b with
  | .invokespecial ix, 1 => (match prog a with
    | some E => [.methodLinkNest own ix E.1 zhost]
    | none => [])
  | .invokestatic ix, 1 => (match prog a with
    | some E => [.methodLinkNest own ix E.1 zhost]
    | none => [])
  | _, _ => []
def zmwords (E : zE) : List Cond := if zEk E = 99 then [.code E.1 E.2.1 E.2.2.1 E.2.2.2.1, .static E.1, .initialized E.1.cls] else if E.1.name = "<init>" then [.code E.1 E.2.1 E.2.2.1 E.2.2.2.1, .instanceMethod E.1, .initialized E.1.cls] else [.code E.1 E.2.1 E.2.2.1 E.2.2.2.1, .instanceMethod E.1, .selects E.1.cls E.1 E.1, .initialized E.1.cls]
def zkt : Nat → FieldType → Bool
  | 0, .int => true
  | 1, .long => true
  | 2, .object _ => true
  | 2, .array _ => true
  | 3, .boolean => true
  | _, _ => false
def zside (prog : Nat → Option zE) (y : MethodName) (zst : List (String × Nat × String × Nat)) (ins : Instr) (cv : zV) (a b c : Nat) : Bool := match ins with
  | .getfield _ => Nat.blt a 6 && (Nat.blt b (zNf a) && decide ((zTf a b).1 = zRf a))
  | .putfield _ => Nat.blt a 6 && (Nat.blt b (zNf a) && (decide ((zTf a b).1 = zRf a) && (zkt c (zTy a b) && (!(zTf a b).2.2.2 || (decide (y.name = "<init>") && decide (zRf a = y.cls))))))
  | .new _ => Nat.blt a 6
  | .ldc ix => (match cv with
    | .inl (.int _) => true
    | .inl (.ref k) => Nat.ble 1000000 k && zst.any (fun q => decide (q.1 = y.cls) && (Nat.beq q.2.1 ix && Nat.beq q.2.2.2 (k - 1000000)))
    | _ => false)
  | .ldc_w _ => (match cv with
    | .inl (.int _) => true
    | _ => false)
  | .ldc2_w _ => (match cv with
    | .inl (.long _) => true
    | _ => false)
  | .multianewarray _ d => Nat.beq d 2 && Nat.ble a 1
  | .invokevirtual _ => Nat.beq b 8 || Nat.beq b 11 || (Nat.beq b 0 && (match prog a with
    | some E => Nat.blt (zEk E) 6 && (decide (E.1.name ≠ "<init>"))
    | none => false))
  | .invokespecial _ => Nat.beq b 6 || (Nat.ble b 1 && (match prog a with
    | some E => Nat.blt (zEk E) 6 && (decide (E.1.name = "<init>"))
    | none => false))
  | .invokestatic _ => Nat.beq b 7 || Nat.beq b 9 || Nat.beq b 10 || Nat.beq b 12 || (Nat.ble b 1 && (match prog a with
    | some E => Nat.beq (zEk E) 99
    | none => false))
  | _ => true
def zmside (E : zE) : Bool := plainName E.1.cls && (decide ((parseMethodDescriptor E.1.desc).map (fun d => d.parameters.length) = some (zEp E)) && (decide (E.1.cls ≠ "java/lang/invoke/MethodHandle") && (decide (E.1.cls ≠ "java/lang/invoke/VarHandle") && (Nat.ble (zEm E) 40 && (if zEk E = 99 then true else Nat.blt (zEk E) 6 && (decide (E.1.cls = zRf (zEk E)) && (if E.1.name = "<init>" then decide (E.2.2.2.1 = none) else true)))))))
def zOkC (prog : Nat → Option zE) (zst : List (String × Nat × String × Nat)) (TG TN : List Cond) (E : zE) : Prop := ∀ (pc : Nat) (i : zI), zft (zEd E) pc = some i → zdec E.2.1 pc i.1 = true ∧ zside prog E.1 zst i.1 i.2.1 i.2.2.1 i.2.2.2.1 i.2.2.2.2.1 = true ∧ (∀ w ∈ zwords prog E.1.cls i.1 i.2.1 i.2.2.1 i.2.2.2.1, w ∈ TG) ∧ (∀ w ∈ zwordsN prog E.1.cls i.1 i.2.2.1 i.2.2.2.1, w ∈ TN)
def zOkP (prog : Nat → Option zE) (zst : List (String × Nat × String × Nat)) (TG TN : List Cond) : Prop := ∀ (j : Nat) (E : zE), prog j = some E → zOkC prog zst TG TN E ∧ zmside E = true ∧ ∀ w ∈ zmwords E, w ∈ TG
