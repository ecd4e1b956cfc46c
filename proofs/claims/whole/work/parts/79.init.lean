def iCells (n : Nat) : List zC := [(10, List.replicate 8 (.inl (.int 0))), (10, List.replicate 8 (.inl (.int 0))), (10, List.replicate 8 (.inl (.int 0))), (13, (List.range 8).map (fun i => .inl (.ref (n + 5 + i)))), (11, List.replicate 40 (.inl (.long 0))), (11, List.replicate 40 (.inl (.long 0))), (11, List.replicate 40 (.inl (.long 0))), (11, List.replicate 40 (.inl (.long 0))), (11, List.replicate 40 (.inl (.long 0))), (11, List.replicate 40 (.inl (.long 0))), (11, List.replicate 40 (.inl (.long 0))), (11, List.replicate 40 (.inl (.long 0))), (11, List.replicate 40 (.inl (.long 0))), (10, List.replicate 8 (.inl (.int 0))), (10, List.replicate 250 (.inl (.int 0))), (10, List.replicate 8 (.inl (.int 0))), (10, List.replicate 61 (.inl (.int 0))), (10, List.replicate 8 (.inl (.int 0))), (10, List.replicate 8 (.inl (.int 0))), (10, List.replicate 8 (.inl (.int 0))), (10, List.replicate 8 (.inl (.int 0))), (10, List.replicate 8 (.inl (.int 0))), (10, List.replicate 4 (.inl (.int 0))), (14, (List.range 4).map (fun i => .inl (.ref (n + 25 + i)))), (10, List.replicate 8 (.inl (.int 0))), (10, List.replicate 8 (.inl (.int 0))), (10, List.replicate 8 (.inl (.int 0))), (10, List.replicate 8 (.inl (.int 0))), (10, List.replicate 3 (.inl (.int 0)))]
def iSets (n : Nat) : List (Nat × zV) := [(0, .inl (.ref (n + 1))), (1, .inl (.ref (n + 2))), (2, .inl (.ref (n + 3))), (3, .inl (.ref (n + 4))), (4, .inl (.ref (n + 13))), (5, .inl (.ref (n + 14))), (6, .inl (.ref (n + 15))), (8, .inl (.ref (n + 16))), (9, .inl (.int 20)), (10, .inl (.int 5)), (11, .inl (.int 10)), (12, .inl (.int 40)), (15, .inl (.int 1)), (16, .inl (.ref (n + 17))), (18, .inl (.ref (n + 18))), (19, .inl (.ref (n + 19))), (20, .inl (.ref (n + 20))), (21, .inl (.ref (n + 21))), (22, .inl (.ref (n + 22))), (24, .inl (.ref (n + 23))), (25, .inl (.ref (n + 24))), (33, .inl (.ref (n + 29)))]
def iObj (n k : Nat) : List zV := ((iSets n).take k).foldl (fun vs p => vs.set p.1 p.2) (zdfl 5)
def iTys : List Nat := [6, 24, 25, 26, 27, 28, 28, 28, 28, 28, 28, 28, 28, 28, 29, 18, 30, 31, 32, 33, 34, 35, 36, 37, 38, 39, 39, 39, 39, 40]
def iHp (h : zH) (k c : Nat) : zH := h ++ ((5, iObj h.length k) :: (iCells h.length).take c)
theorem iObj_set {n k b : Nat} {v : zV} (h : (iSets n)[k]? = some (b, v)) : (iObj n k).set b v = iObj n (k + 1) := by
  unfold iObj
  rw [List.take_succ, h, List.foldl_append]
  rfl
theorem foldl_set_len : ∀ (l : List (Nat × zV)) (vs : List zV), (l.foldl (fun vs p => vs.set p.1 p.2) vs).length = vs.length
  | [], _ => rfl
  | p :: l, vs => by
    show (l.foldl (fun vs p => vs.set p.1 p.2) (vs.set p.1 p.2)).length = _
    rw [foldl_set_len l, List.length_set]
theorem iObj_len (n k : Nat) : (iObj n k).length = 41 := by
  unfold iObj
  rw [foldl_set_len]
  rfl
theorem iC_take {n c : Nat} {x : zC} (h : (iCells n)[c]? = some x) : (iCells n).take (c + 1) = (iCells n).take c ++ [x] := by
  rw [List.take_succ, h]
  rfl
theorem iC_takeM {n c m : Nat} {x : List zC} (h : ((iCells n).drop c).take m = x) : (iCells n).take (c + m) = (iCells n).take c ++ x := by
  rw [List.take_add, h]
section
variable {E : zE} {scr : List zV} {rc rs : Nat} {cc : zK} {post : Option zV → zH → Bool} {G : zS → Prop}
variable {pc nc ns : Nat} {L : zL} {st : List zV} {h : zH} {k c : Nat}
theorem iHp_len (h : zH) (k c : Nat) (hc : c ≤ 29) : (iHp h k c).length = h.length + (c + 1) := by
  unfold iHp
  rw [List.length_append, List.length_cons, List.length_take]
  have : (iCells h.length).length = 29 := rfl
  omega
theorem g_newI (HW : zWalk zprog E scr rc rs cc post G) {t : ArrayType} {w : zV × Nat × Nat × Nat × Nat} (hf : zft (zEd E) pc = some (.newarray t, w)) {n : Int32} {m : Nat} (hn : n.toNatClampNeg = m) (n0 : ¬ n < 0) (hm : m ≤ 65536) (hc : nc + 1 ≤ rc) (hs : ns + m ≤ rs) (hl : h.length + 30 ≤ 1000000) (c29 : c ≤ 28) (ht : (t = .int ∧ (iCells h.length).take (c + 1) = (iCells h.length).take c ++ [(10, List.replicate m (.inl (.int 0)))]) ∨ (t = .long ∧ (iCells h.length).take (c + 1) = (iCells h.length).take c ++ [(11, List.replicate m (.inl (.long 0)))])) (kk : G (pc + 2, L, .inl (.ref (h.length + (c + 1))) :: st, iHp h k (c + 1), nc + 1, ns + m)) : G (pc, L, .inl (.int n) :: st, iHp h k c, nc, ns) := by
  have e : ∀ x : zC, (iCells h.length).take (c + 1) = (iCells h.length).take c ++ [x] → iHp h k c ++ [x] = iHp h k (c + 1) := fun x hx => by
    unfold iHp
    rw [hx, List.append_assoc]
    rfl
  have el := iHp_len h k c (by omega)
  refine g_step HW hf rfl ?_
  simp only [zstep]
  rw [if_neg n0, hn, el]
  refine t_and2 (t_ble hm) (t_and2 (t_ble hc) (t_and2 (t_ble hs) (t_and2 (t_blt (by omega)) ?_)))
  rcases ht with ⟨rfl, hx⟩ | ⟨rfl, hx⟩
  · show zB (G (pc + 2, L, .inl (.ref (h.length + (c + 1))) :: st, iHp h k c ++ [(10, List.replicate m (.inl (.int 0)))], nc + 1, ns + m)) = true
    rw [e _ hx]
    exact zB_iff.mpr kk
  · show zB (G (pc + 2, L, .inl (.ref (h.length + (c + 1))) :: st, iHp h k c ++ [(11, List.replicate m (.inl (.long 0)))], nc + 1, ns + m)) = true
    rw [e _ hx]
    exact zB_iff.mpr kk
theorem g_newM (HW : zWalk zprog E scr rc rs cc post G) {ix dm : Nat} {cv : zV} {a b c2 e9 : Nat} (hf : zft (zEd E) pc = some (.multianewarray ix dm, cv, a, b, c2, e9)) {n m : Int32} {n1 m1 : Nat} (hn : n.toNatClampNeg = n1) (hm : m.toNatClampNeg = m1) (n0 : ¬ n < 0) (m0 : ¬ m < 0) (hn1 : n1 ≤ 1000) (hm1 : m1 ≤ 1000) (hc : nc + 1 + n1 ≤ rc) (hs : ns + n1 + n1 * m1 ≤ rs) (hl : h.length + 30 ≤ 1000000) (c29 : c + n1 ≤ 28)
    (ht : (a = 1 ∧ (iCells h.length).take (c + (1 + n1)) = (iCells h.length).take c ++ ((13, (List.range n1).map (fun i => .inl (.ref (h.length + (c + 1) + 1 + i)))) :: List.replicate n1 (11, List.replicate m1 (.inl (.long 0))))) ∨ (a = 0 ∧ (iCells h.length).take (c + (1 + n1)) = (iCells h.length).take c ++ ((14, (List.range n1).map (fun i => .inl (.ref (h.length + (c + 1) + 1 + i)))) :: List.replicate n1 (10, List.replicate m1 (.inl (.int 0)))))) (kk : G (pc + 4, L, .inl (.ref (h.length + (c + 1))) :: st, iHp h k (c + (1 + n1)), nc + 1 + n1, ns + n1 + n1 * m1)) : G (pc, L, .inl (.int m) :: .inl (.int n) :: st, iHp h k c, nc, ns) := by
  have e : ∀ x : List zC, (iCells h.length).take (c + (1 + n1)) = (iCells h.length).take c ++ x → iHp h k c ++ x = iHp h k (c + (1 + n1)) := fun x hx => by
    unfold iHp
    rw [hx, List.append_assoc]
    rfl
  have el := iHp_len h k c (by omega)
  refine g_step HW hf rfl ?_
  simp only [zstep]
  rw [if_neg n0, if_neg m0, hn, hm, el]
  refine t_and2 (t_ble hn1) (t_and2 (t_ble hm1) (t_and2 (t_ble hc) (t_and2 (t_ble hs) (t_and2 (t_blt (by omega)) ?_))))
  rcases ht with ⟨rfl, hx⟩ | ⟨rfl, hx⟩
  · show zB (G (pc + 4, L, .inl (.ref (h.length + (c + 1))) :: st, iHp h k c ++ _, nc + 1 + n1, ns + n1 + n1 * m1)) = true
    rw [e _ hx]
    exact zB_iff.mpr kk
  · show zB (G (pc + 4, L, .inl (.ref (h.length + (c + 1))) :: st, iHp h k c ++ _, nc + 1 + n1, ns + n1 + n1 * m1)) = true
    rw [e _ hx]
    exact zB_iff.mpr kk
theorem g_putO (HW : zWalk zprog E scr rc rs cc post G) {ix b c2 e9 : Nat} {cv v : zV} (hf : zft (zEd E) pc = some (.putfield ix, cv, 5, b, c2, e9)) (hl : h.length + 30 ≤ 1000000) (hb : b < (iObj h.length k).length) (hz : zfit c2 v = true) (e : (iObj h.length k).set b v = iObj h.length (k + 1)) (kk : G (pc + 3, L, st, iHp h (k + 1) c, nc, ns)) : G (pc, L, v :: .inl (.ref h.length) :: st, iHp h k c, nc, ns) := by
  refine g_step HW hf rfl ?_
  simp only [zstep]
  have h1 : (iHp h k c)[h.length]? = some (5, iObj h.length k) := by
    unfold iHp
    rw [List.getElem?_append_right (Nat.le_refl _), Nat.sub_self]
    rfl
  have h2 : (iHp h k c).set h.length (5, (iObj h.length k).set b v) = iHp h (k + 1) c := by
    unfold iHp
    rw [List.set_append_right _ _ (Nat.le_refl _), Nat.sub_self, e]
    rfl
  refine zrow_mk h1 (by omega) ?_
  rw [h2]
  exact t_and2 (t_blt hb) (t_and2 hz (zB_iff.mpr kk))
end
theorem c_init {scr : List zV} {d : Nat} {h : zH} {post : Option zV → zH → Bool} (hl : h.length + 30 ≤ 1000000) (kk : post none (iHp h 22 29) = true) : zD zprog scr (d + 1) 192 [.inl (.ref h.length)] (h ++ [(5, zdfl 5)]) post = true := by
  refine zD_intro (E := ze_X5_init) rfl rfl (fun G HW => ?_)
  have e0 : h ++ [(5, zdfl 5)] = iHp h 0 0 := rfl
  rw [e0]
  refine zrn_ok HW 4 (zB_iff.mpr (?_ : G (7, [(0, .inl (.ref h.length))], [.inl (.int (8 : Int32)), .inl (.ref h.length)], iHp h 0 0, 0, 0)))
  refine g_newI (k := 0) (c := 0) (m := 8) HW rfl rfl (by decide) (by decide) (by decide) (by decide) hl (by decide) (Or.inl ⟨rfl, iC_take rfl⟩) ?_
  show G (9, [(0, .inl (.ref h.length))], [.inl (.ref (h.length + 1)), .inl (.ref h.length)], iHp h 0 1, 1, 8)
  refine g_putO (k := 0) (c := 1) HW rfl hl (by rw [iObj_len]; decide) rfl (iObj_set rfl) ?_
  show G (12, [(0, .inl (.ref h.length))], [], iHp h 1 1, 1, 8)
  refine zrn_ok HW 2 (zB_iff.mpr (?_ : G (15, [(0, .inl (.ref h.length))], [.inl (.int (8 : Int32)), .inl (.ref h.length)], iHp h 1 1, 1, 8)))
  refine g_newI (k := 1) (c := 1) (m := 8) HW rfl rfl (by decide) (by decide) (by decide) (by decide) hl (by decide) (Or.inl ⟨rfl, iC_take rfl⟩) ?_
  show G (17, [(0, .inl (.ref h.length))], [.inl (.ref (h.length + 2)), .inl (.ref h.length)], iHp h 1 2, 2, 16)
  refine g_putO (k := 1) (c := 2) HW rfl hl (by rw [iObj_len]; decide) rfl (iObj_set rfl) ?_
  show G (20, [(0, .inl (.ref h.length))], [], iHp h 2 2, 2, 16)
  refine zrn_ok HW 2 (zB_iff.mpr (?_ : G (23, [(0, .inl (.ref h.length))], [.inl (.int (8 : Int32)), .inl (.ref h.length)], iHp h 2 2, 2, 16)))
  refine g_newI (k := 2) (c := 2) (m := 8) HW rfl rfl (by decide) (by decide) (by decide) (by decide) hl (by decide) (Or.inl ⟨rfl, iC_take rfl⟩) ?_
  show G (25, [(0, .inl (.ref h.length))], [.inl (.ref (h.length + 3)), .inl (.ref h.length)], iHp h 2 3, 3, 24)
  refine g_putO (k := 2) (c := 3) HW rfl hl (by rw [iObj_len]; decide) rfl (iObj_set rfl) ?_
  show G (28, [(0, .inl (.ref h.length))], [], iHp h 3 3, 3, 24)
  refine zrn_ok HW 3 (zB_iff.mpr (?_ : G (33, [(0, .inl (.ref h.length))], [.inl (.int (40 : Int32)), .inl (.int (8 : Int32)), .inl (.ref h.length)], iHp h 3 3, 3, 24)))
  refine g_newM (k := 3) (c := 3) (n1 := 8) (m1 := 40) HW rfl rfl rfl (by decide) (by decide) (by decide) (by decide) (by decide) (by decide) hl (by decide) (Or.inl ⟨rfl, iC_takeM (m := 9) rfl⟩) ?_
  show G (37, [(0, .inl (.ref h.length))], [.inl (.ref (h.length + 4)), .inl (.ref h.length)], iHp h 3 12, 12, 352)
  refine g_putO (k := 3) (c := 12) HW rfl hl (by rw [iObj_len]; decide) rfl (iObj_set rfl) ?_
  show G (40, [(0, .inl (.ref h.length))], [], iHp h 4 12, 12, 352)
  refine zrn_ok HW 2 (zB_iff.mpr (?_ : G (43, [(0, .inl (.ref h.length))], [.inl (.int (40 : Int32)), .inl (.ref h.length)], iHp h 4 12, 12, 352)))
  refine g_newI (k := 4) (c := 12) (m := 40) HW rfl rfl (by decide) (by decide) (by decide) (by decide) hl (by decide) (Or.inr ⟨rfl, iC_take rfl⟩) ?_
  show G (45, [(0, .inl (.ref h.length))], [.inl (.ref (h.length + 13)), .inl (.ref h.length)], iHp h 4 13, 13, 392)
  refine g_putO (k := 4) (c := 13) HW rfl hl (by rw [iObj_len]; decide) rfl (iObj_set rfl) ?_
  show G (48, [(0, .inl (.ref h.length))], [], iHp h 5 13, 13, 392)
  refine zrn_ok HW 2 (zB_iff.mpr (?_ : G (51, [(0, .inl (.ref h.length))], [.inl (.int (8 : Int32)), .inl (.ref h.length)], iHp h 5 13, 13, 392)))
  refine g_newI (k := 5) (c := 13) (m := 8) HW rfl rfl (by decide) (by decide) (by decide) (by decide) hl (by decide) (Or.inl ⟨rfl, iC_take rfl⟩) ?_
  show G (53, [(0, .inl (.ref h.length))], [.inl (.ref (h.length + 14)), .inl (.ref h.length)], iHp h 5 14, 14, 400)
  refine g_putO (k := 5) (c := 14) HW rfl hl (by rw [iObj_len]; decide) rfl (iObj_set rfl) ?_
  show G (56, [(0, .inl (.ref h.length))], [], iHp h 6 14, 14, 400)
  refine zrn_ok HW 2 (zB_iff.mpr (?_ : G (60, [(0, .inl (.ref h.length))], [.inl (.int (250 : Int32)), .inl (.ref h.length)], iHp h 6 14, 14, 400)))
  refine g_newI (k := 6) (c := 14) (m := 250) HW rfl rfl (by decide) (by decide) (by decide) (by decide) hl (by decide) (Or.inl ⟨rfl, iC_take rfl⟩) ?_
  show G (62, [(0, .inl (.ref h.length))], [.inl (.ref (h.length + 15)), .inl (.ref h.length)], iHp h 6 15, 15, 650)
  refine g_putO (k := 6) (c := 15) HW rfl hl (by rw [iObj_len]; decide) rfl (iObj_set rfl) ?_
  show G (65, [(0, .inl (.ref h.length))], [], iHp h 7 15, 15, 650)
  refine zrn_ok HW 2 (zB_iff.mpr (?_ : G (68, [(0, .inl (.ref h.length))], [.inl (.int (8 : Int32)), .inl (.ref h.length)], iHp h 7 15, 15, 650)))
  refine g_newI (k := 7) (c := 15) (m := 8) HW rfl rfl (by decide) (by decide) (by decide) (by decide) hl (by decide) (Or.inl ⟨rfl, iC_take rfl⟩) ?_
  show G (70, [(0, .inl (.ref h.length))], [.inl (.ref (h.length + 16)), .inl (.ref h.length)], iHp h 7 16, 16, 658)
  refine g_putO (k := 7) (c := 16) HW rfl hl (by rw [iObj_len]; decide) rfl (iObj_set rfl) ?_
  show G (73, [(0, .inl (.ref h.length))], [], iHp h 8 16, 16, 658)
  refine zrn_ok HW 2 (zB_iff.mpr (?_ : G (76, [(0, .inl (.ref h.length))], [.inl (.int (20 : Int32)), .inl (.ref h.length)], iHp h 8 16, 16, 658)))
  refine g_putO (k := 8) (c := 16) HW rfl hl (by rw [iObj_len]; decide) rfl (iObj_set rfl) ?_
  show G (79, [(0, .inl (.ref h.length))], [], iHp h 9 16, 16, 658)
  refine zrn_ok HW 2 (zB_iff.mpr (?_ : G (81, [(0, .inl (.ref h.length))], [.inl (.int (5 : Int32)), .inl (.ref h.length)], iHp h 9 16, 16, 658)))
  refine g_putO (k := 9) (c := 16) HW rfl hl (by rw [iObj_len]; decide) rfl (iObj_set rfl) ?_
  show G (84, [(0, .inl (.ref h.length))], [], iHp h 10 16, 16, 658)
  refine zrn_ok HW 2 (zB_iff.mpr (?_ : G (87, [(0, .inl (.ref h.length))], [.inl (.int (10 : Int32)), .inl (.ref h.length)], iHp h 10 16, 16, 658)))
  refine g_putO (k := 10) (c := 16) HW rfl hl (by rw [iObj_len]; decide) rfl (iObj_set rfl) ?_
  show G (90, [(0, .inl (.ref h.length))], [], iHp h 11 16, 16, 658)
  refine zrn_ok HW 2 (zB_iff.mpr (?_ : G (93, [(0, .inl (.ref h.length))], [.inl (.int (40 : Int32)), .inl (.ref h.length)], iHp h 11 16, 16, 658)))
  refine g_putO (k := 11) (c := 16) HW rfl hl (by rw [iObj_len]; decide) rfl (iObj_set rfl) ?_
  show G (96, [(0, .inl (.ref h.length))], [], iHp h 12 16, 16, 658)
  refine zrn_ok HW 2 (zB_iff.mpr (?_ : G (98, [(0, .inl (.ref h.length))], [.inl (.int (1 : Int32)), .inl (.ref h.length)], iHp h 12 16, 16, 658)))
  refine g_putO (k := 12) (c := 16) HW rfl hl (by rw [iObj_len]; decide) rfl (iObj_set rfl) ?_
  show G (101, [(0, .inl (.ref h.length))], [], iHp h 13 16, 16, 658)
  refine zrn_ok HW 2 (zB_iff.mpr (?_ : G (104, [(0, .inl (.ref h.length))], [.inl (.int (61 : Int32)), .inl (.ref h.length)], iHp h 13 16, 16, 658)))
  refine g_newI (k := 13) (c := 16) (m := 61) HW rfl rfl (by decide) (by decide) (by decide) (by decide) hl (by decide) (Or.inl ⟨rfl, iC_take rfl⟩) ?_
  show G (106, [(0, .inl (.ref h.length))], [.inl (.ref (h.length + 17)), .inl (.ref h.length)], iHp h 13 17, 17, 719)
  refine g_putO (k := 13) (c := 17) HW rfl hl (by rw [iObj_len]; decide) rfl (iObj_set rfl) ?_
  show G (109, [(0, .inl (.ref h.length))], [], iHp h 14 17, 17, 719)
  refine zrn_ok HW 2 (zB_iff.mpr (?_ : G (112, [(0, .inl (.ref h.length))], [.inl (.int (8 : Int32)), .inl (.ref h.length)], iHp h 14 17, 17, 719)))
  refine g_newI (k := 14) (c := 17) (m := 8) HW rfl rfl (by decide) (by decide) (by decide) (by decide) hl (by decide) (Or.inl ⟨rfl, iC_take rfl⟩) ?_
  show G (114, [(0, .inl (.ref h.length))], [.inl (.ref (h.length + 18)), .inl (.ref h.length)], iHp h 14 18, 18, 727)
  refine g_putO (k := 14) (c := 18) HW rfl hl (by rw [iObj_len]; decide) rfl (iObj_set rfl) ?_
  show G (117, [(0, .inl (.ref h.length))], [], iHp h 15 18, 18, 727)
  refine zrn_ok HW 2 (zB_iff.mpr (?_ : G (120, [(0, .inl (.ref h.length))], [.inl (.int (8 : Int32)), .inl (.ref h.length)], iHp h 15 18, 18, 727)))
  refine g_newI (k := 15) (c := 18) (m := 8) HW rfl rfl (by decide) (by decide) (by decide) (by decide) hl (by decide) (Or.inl ⟨rfl, iC_take rfl⟩) ?_
  show G (122, [(0, .inl (.ref h.length))], [.inl (.ref (h.length + 19)), .inl (.ref h.length)], iHp h 15 19, 19, 735)
  refine g_putO (k := 15) (c := 19) HW rfl hl (by rw [iObj_len]; decide) rfl (iObj_set rfl) ?_
  show G (125, [(0, .inl (.ref h.length))], [], iHp h 16 19, 19, 735)
  refine zrn_ok HW 2 (zB_iff.mpr (?_ : G (128, [(0, .inl (.ref h.length))], [.inl (.int (8 : Int32)), .inl (.ref h.length)], iHp h 16 19, 19, 735)))
  refine g_newI (k := 16) (c := 19) (m := 8) HW rfl rfl (by decide) (by decide) (by decide) (by decide) hl (by decide) (Or.inl ⟨rfl, iC_take rfl⟩) ?_
  show G (130, [(0, .inl (.ref h.length))], [.inl (.ref (h.length + 20)), .inl (.ref h.length)], iHp h 16 20, 20, 743)
  refine g_putO (k := 16) (c := 20) HW rfl hl (by rw [iObj_len]; decide) rfl (iObj_set rfl) ?_
  show G (133, [(0, .inl (.ref h.length))], [], iHp h 17 20, 20, 743)
  refine zrn_ok HW 2 (zB_iff.mpr (?_ : G (136, [(0, .inl (.ref h.length))], [.inl (.int (8 : Int32)), .inl (.ref h.length)], iHp h 17 20, 20, 743)))
  refine g_newI (k := 17) (c := 20) (m := 8) HW rfl rfl (by decide) (by decide) (by decide) (by decide) hl (by decide) (Or.inl ⟨rfl, iC_take rfl⟩) ?_
  show G (138, [(0, .inl (.ref h.length))], [.inl (.ref (h.length + 21)), .inl (.ref h.length)], iHp h 17 21, 21, 751)
  refine g_putO (k := 17) (c := 21) HW rfl hl (by rw [iObj_len]; decide) rfl (iObj_set rfl) ?_
  show G (141, [(0, .inl (.ref h.length))], [], iHp h 18 21, 21, 751)
  refine zrn_ok HW 2 (zB_iff.mpr (?_ : G (144, [(0, .inl (.ref h.length))], [.inl (.int (8 : Int32)), .inl (.ref h.length)], iHp h 18 21, 21, 751)))
  refine g_newI (k := 18) (c := 21) (m := 8) HW rfl rfl (by decide) (by decide) (by decide) (by decide) hl (by decide) (Or.inl ⟨rfl, iC_take rfl⟩) ?_
  show G (146, [(0, .inl (.ref h.length))], [.inl (.ref (h.length + 22)), .inl (.ref h.length)], iHp h 18 22, 22, 759)
  refine g_putO (k := 18) (c := 22) HW rfl hl (by rw [iObj_len]; decide) rfl (iObj_set rfl) ?_
  show G (149, [(0, .inl (.ref h.length))], [], iHp h 19 22, 22, 759)
  refine zrn_ok HW 2 (zB_iff.mpr (?_ : G (151, [(0, .inl (.ref h.length))], [.inl (.int (4 : Int32)), .inl (.ref h.length)], iHp h 19 22, 22, 759)))
  refine g_newI (k := 19) (c := 22) (m := 4) HW rfl rfl (by decide) (by decide) (by decide) (by decide) hl (by decide) (Or.inl ⟨rfl, iC_take rfl⟩) ?_
  show G (153, [(0, .inl (.ref h.length))], [.inl (.ref (h.length + 23)), .inl (.ref h.length)], iHp h 19 23, 23, 763)
  refine g_putO (k := 19) (c := 23) HW rfl hl (by rw [iObj_len]; decide) rfl (iObj_set rfl) ?_
  show G (156, [(0, .inl (.ref h.length))], [], iHp h 20 23, 23, 763)
  refine zrn_ok HW 3 (zB_iff.mpr (?_ : G (160, [(0, .inl (.ref h.length))], [.inl (.int (8 : Int32)), .inl (.int (4 : Int32)), .inl (.ref h.length)], iHp h 20 23, 23, 763)))
  refine g_newM (k := 20) (c := 23) (n1 := 4) (m1 := 8) HW rfl rfl rfl (by decide) (by decide) (by decide) (by decide) (by decide) (by decide) hl (by decide) (Or.inr ⟨rfl, iC_takeM (m := 5) rfl⟩) ?_
  show G (164, [(0, .inl (.ref h.length))], [.inl (.ref (h.length + 24)), .inl (.ref h.length)], iHp h 20 28, 28, 799)
  refine g_putO (k := 20) (c := 28) HW rfl hl (by rw [iObj_len]; decide) rfl (iObj_set rfl) ?_
  show G (167, [(0, .inl (.ref h.length))], [], iHp h 21 28, 28, 799)
  refine zrn_ok HW 2 (zB_iff.mpr (?_ : G (169, [(0, .inl (.ref h.length))], [.inl (.int (3 : Int32)), .inl (.ref h.length)], iHp h 21 28, 28, 799)))
  refine g_newI (k := 21) (c := 28) (m := 3) HW rfl rfl (by decide) (by decide) (by decide) (by decide) hl (by decide) (Or.inl ⟨rfl, iC_take rfl⟩) ?_
  show G (171, [(0, .inl (.ref h.length))], [.inl (.ref (h.length + 29)), .inl (.ref h.length)], iHp h 21 29, 29, 802)
  refine g_putO (k := 21) (c := 29) HW rfl hl (by rw [iObj_len]; decide) rfl (iObj_set rfl) ?_
  show G (174, [(0, .inl (.ref h.length))], [], iHp h 22 29, 29, 802)
  refine zrn_ok HW 1 ?_
  exact zret_v rfl kk
