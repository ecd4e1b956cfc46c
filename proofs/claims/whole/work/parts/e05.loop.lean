theorem zof_at {pc t : Nat} {off : Int} {k : Nat → Bool} (h : (pc : Int) + off = Int.ofNat t) (hk : k t = true) : zof pc off k = true := by
  unfold zof
  rw [h]
  exact hk
theorem lw_loop {scr : List zV} {post : Option zV → zH → Bool} {G : zS → Prop} {D : Nat} (HW : zWalk zprog ze_L_law scr room_1.cells room_1.slots (zD zprog scr D) post G) (HWN : zWalk zprog ze_L_lawN scr room_1.cells room_1.slots (zD zprog scr D) post G) (hsc0 : cT scr) (hD : 300 ≤ D) (IHP : ∀ P : pP, tBel (zPhi P) scr 300) (hscr : ∀ j : Nat, j < scr.length → ∃ x : Int32, scr[j]? = some (.inl (.int x))) (hlen : scr.length ≤ 3072) (hpost : ∀ h : zH, post (some (.inl (.int 1))) h = true)
    :
    ∀ k j : Nat, j + k = 520 → ∀ (T : List Nat) (h : zH) (t : Int) (v : Bool) (nc ns : Nat), REL T h t v → h.length ≤ 200 + 30 * j + 3843 * v.toNat → nc ≤ 200 + 30 * j + 3843 * v.toNat → ns ≤ 20000 + 3328 * j + 971974 * v.toNat → G (18, [(3, .inl (.int (Int32.ofNat (6 * j)))), (2, .inl (.ref 49)), (1, .inl (.ref 0)), (0, .inl (.ref 10000000))], [], h, nc, ns) := by
  intro k
  induction k with
  | zero =>
    intro j hj T h t v nc ns ok b1 b2 b3
    have ej : (Int32.ofNat (6 * j)).toInt = ((6 * j : Nat) : Int) := nI_toInt (by omega)
    have el : (Int32.ofNat scr.length).toInt = (scr.length : Int) := nI_toInt (by omega)
    have e6 : (6 : Int32).toInt = 6 := rfl
    have es := t_sub (x := Int32.ofNat scr.length) (y := 6) (by omega) (by omega)
    refine zrn_ok HW 3 (zB_iff.mpr (?_ : G (21, [(3, .inl (.int (Int32.ofNat (6 * j)))), (2, .inl (.ref 49)), (1, .inl (.ref 0)), (0, .inl (.ref 10000000))], [.inl (.int (Int32.ofNat scr.length)), .inl (.int (Int32.ofNat (6 * j)))], h, nc, ns)))
    refine zrn_ok HW 3 (zbr_ex (cd := .gt) (x := Int32.ofNat (6 * j)) (y := Int32.ofNat scr.length - (6 : Int32)) (fun hc => zB_iff.mpr ?_) (fun hc => zB_iff.mpr ?_))
    · show G (1669, [(3, .inl (.int (Int32.ofNat (6 * j)))), (2, .inl (.ref 49)), (1, .inl (.ref 0)), (0, .inl (.ref 10000000))], [], h, nc, ns)
      refine zrn_ok HW 1 (zB_iff.mpr (?_ : G (1670, [(3, .inl (.int (Int32.ofNat (6 * j)))), (2, .inl (.ref 49)), (1, .inl (.ref 0)), (0, .inl (.ref 10000000))], [.inl (.int (1 : Int32))], h, nc, ns)))
      refine zrn_ok HW 1 ?_
      exact zret_z rfl rfl (hpost h)
    · exfalso
      have : ¬ ((Int32.ofNat (6 * j)).toInt > (Int32.ofNat scr.length - (6 : Int32)).toInt) := fun e => hc (zop_int.mpr e)
      omega
  | succ k ih =>
    intro j hj T h t v nc ns ok b1 b2 b3
    have ej : (Int32.ofNat (6 * j)).toInt = ((6 * j : Nat) : Int) := nI_toInt (by omega)
    have el : (Int32.ofNat scr.length).toInt = (scr.length : Int) := nI_toInt (by omega)
    have e6 : (6 : Int32).toInt = 6 := rfl
    have es := t_sub (x := Int32.ofNat scr.length) (y := 6) (by omega) (by omega)
    refine zrn_ok HW 3 (zB_iff.mpr (?_ : G (21, [(3, .inl (.int (Int32.ofNat (6 * j)))), (2, .inl (.ref 49)), (1, .inl (.ref 0)), (0, .inl (.ref 10000000))], [.inl (.int (Int32.ofNat scr.length)), .inl (.int (Int32.ofNat (6 * j)))], h, nc, ns)))
    refine zrn_ok HW 3 (zbr_ex (cd := .gt) (x := Int32.ofNat (6 * j)) (y := Int32.ofNat scr.length - (6 : Int32)) (fun hc => zB_iff.mpr ?_) (fun hc => zB_iff.mpr ?_))
    · show G (1669, [(3, .inl (.int (Int32.ofNat (6 * j)))), (2, .inl (.ref 49)), (1, .inl (.ref 0)), (0, .inl (.ref 10000000))], [], h, nc, ns)
      refine zrn_ok HW 1 (zB_iff.mpr (?_ : G (1670, [(3, .inl (.int (Int32.ofNat (6 * j)))), (2, .inl (.ref 49)), (1, .inl (.ref 0)), (0, .inl (.ref 10000000))], [.inl (.int (1 : Int32))], h, nc, ns)))
      refine zrn_ok HW 1 ?_
      exact zret_z rfl rfl (hpost h)
    · have hin : ¬ ((Int32.ofNat (6 * j)).toInt > (Int32.ofNat scr.length - (6 : Int32)).toInt) := fun e => hc (zop_int.mpr e)
      have hL : 6 * j + 6 ≤ scr.length := by omega
      have vb : v.toNat ≤ 1 := by cases v <;> decide
      have hc1 : nc + 4000 ≤ room_1.cells := by have := rmC_le; omega
      have hs1 : ns + 980000 ≤ room_1.slots := by have := rmS_le; omega
      have hl1 : h.length ≤ 900000 := by omega
      have hsc : ∀ q : Nat, (q : Int) < (Int32.ofNat (6 * j)).toInt + 6 → ∃ x : Int32, scr[q]? = some (.inl (.int x)) := fun q hq => hscr q (by omega)
      have hi0 : 0 ≤ (Int32.ofNat (6 * j)).toInt ∧ (Int32.ofNat (6 * j)).toInt ≤ 100000 := by omega
      have nxt : ∀ (T' : List Nat) (h' : zH) (t' : Int) (v' : Bool) (dc ds : Nat), REL T' h' t' v' → h'.length ≤ h.length + dc → ((dc ≤ 30 ∧ ds ≤ 3328 ∧ v' = v) ∨ (v = false ∧ v' = true ∧ dc ≤ 3843 ∧ ds ≤ 971974)) → G (1663, [(3, .inl (.int (Int32.ofNat (6 * j)))), (2, .inl (.ref 49)), (1, .inl (.ref 0)), (0, .inl (.ref 10000000))], [], h', nc + dc, ns + ds) := by
        intro T' h' t' v' dc ds ok' hb hd
        refine zrn_ok HW 1 (zB_iff.mpr (?_ : G (1666, [(3, .inl (.int (Int32.ofNat (6 * j) + Int32.ofInt 6))), (2, .inl (.ref 49)), (1, .inl (.ref 0)), (0, .inl (.ref 10000000))], [], h', nc + dc, ns + ds)))
        refine g_step HW rfl rfl ?_
        show zof 1666 (-1648) (fun t => zB (G (t, [(3, .inl (.int (Int32.ofNat (6 * j) + Int32.ofInt 6))), (2, .inl (.ref 49)), (1, .inl (.ref 0)), (0, .inl (.ref 10000000))], [], h', nc + dc, ns + ds))) = true
        refine zof_at (t := 18) (by decide) (zB_iff.mpr ?_)
        have key : h'.length ≤ 200 + 30 * (j + 1) + 3843 * v'.toNat ∧ nc + dc ≤ 200 + 30 * (j + 1) + 3843 * v'.toNat ∧ ns + ds ≤ 20000 + 3328 * (j + 1) + 971974 * v'.toNat := by
          rcases hd with ⟨d1, d2, rfl⟩ | ⟨rfl, rfl, d1, d2⟩
          · omega
          · have z0 : Bool.toNat false = 0 := rfl
            have z1 : Bool.toNat true = 1 := rfl
            omega
        have := ih (j + 1) (by omega) T' h' t' v' (nc + dc) (ns + ds) ok' key.1 key.2.1 key.2.2
        have e : Int32.ofNat (6 * (j + 1)) = Int32.ofNat (6 * j) + Int32.ofInt 6 := by
          rw [show 6 * (j + 1) = 6 * j + 6 by omega, Int32.ofNat_add]
          rfl
        rw [e] at this
        exact (show G (18, [(3, .inl (.int (Int32.ofNat (6 * j) + Int32.ofInt 6))), (2, .inl (.ref 49)), (1, .inl (.ref 0)), (0, .inl (.ref 10000000))], [], h', nc + dc, ns + ds) from this)
      obtain ⟨x, hx⟩ := hsc (Int32.ofNat (6 * j)).toInt.toNat (by omega)
      refine zrn_ok HW 2 (zB_iff.mpr (?_ : G (29, [(3, .inl (.int (Int32.ofNat (6 * j)))), (2, .inl (.ref 49)), (1, .inl (.ref 0)), (0, .inl (.ref 10000000))], [.inl (.int (Int32.ofNat (6 * j))), .inl (.ref 10000000)], h, nc, ns)))
      refine g_scr HW rfl (by omega) hx ?_
      refine zrn_ok HW 2 (zB_iff.mpr (?_ : G (33, [(3, .inl (.int (Int32.ofNat (6 * j)))), (2, .inl (.ref 49)), (1, .inl (.ref 0)), (0, .inl (.ref 10000000))], [.inl (.int (x &&& (63 : Int32)))], h, nc, ns)))
      have h63 : (63 : Int32).toInt = 63 := rfl
      have r1 := t_and (x := (63 : Int32)) (y := x) (by decide)
      rw [t_andC] at r1
      refine g_tsw HW (d := 1630) (lo := 0) (hi := 51) (offs := #[223, 266, 339, 402, 436, 459, 492, 525, 548, 571, 604, 647, 670, 713, 746, 769, 782, 795, 828, 861, 894, 907, 930, 953, 976, 999, 1022, 1055, 1078, 1101, 1114, 1127, 1160, 1193, 1226, 1249, 1282, 1315, 1358, 1381, 1404, 1427, 1440, 1453, 1466, 1489, 1512, 1535, 1558, 1581, 1594, 1607]) rfl (x := x &&& (63 : Int32)) rfl (fun hs => zB_iff.mpr ?_) (And.intro (fun hs => zB_iff.mpr ?_) (And.intro (fun hs => zB_iff.mpr ?_) (And.intro (fun hs => zB_iff.mpr ?_) (And.intro (fun hs => zB_iff.mpr ?_) (And.intro (fun hs => zB_iff.mpr ?_) (And.intro (fun hs => zB_iff.mpr ?_) (And.intro (fun hs => zB_iff.mpr ?_) (And.intro (fun hs => zB_iff.mpr ?_) (And.intro (fun hs => zB_iff.mpr ?_) (And.intro (fun hs => zB_iff.mpr ?_) (And.intro (fun hs => zB_iff.mpr ?_) (And.intro (fun hs => zB_iff.mpr ?_) (And.intro (fun hs => zB_iff.mpr ?_) (And.intro (fun hs => zB_iff.mpr ?_) (And.intro (fun hs => zB_iff.mpr ?_) (And.intro (fun hs => zB_iff.mpr ?_) (And.intro (fun hs => zB_iff.mpr ?_) (And.intro (fun hs => zB_iff.mpr ?_) (And.intro (fun hs => zB_iff.mpr ?_) (And.intro (fun hs => zB_iff.mpr ?_) (And.intro (fun hs => zB_iff.mpr ?_) (And.intro (fun hs => zB_iff.mpr ?_) (And.intro (fun hs => zB_iff.mpr ?_) (And.intro (fun hs => zB_iff.mpr ?_) (And.intro (fun hs => zB_iff.mpr ?_) (And.intro (fun hs => zB_iff.mpr ?_) (And.intro (fun hs => zB_iff.mpr ?_) (And.intro (fun hs => zB_iff.mpr ?_) (And.intro (fun hs => zB_iff.mpr ?_) (And.intro (fun hs => zB_iff.mpr ?_) (And.intro (fun hs => zB_iff.mpr ?_) (And.intro (fun hs => zB_iff.mpr ?_) (And.intro (fun hs => zB_iff.mpr ?_) (And.intro (fun hs => zB_iff.mpr ?_) (And.intro (fun hs => zB_iff.mpr ?_) (And.intro (fun hs => zB_iff.mpr ?_) (And.intro (fun hs => zB_iff.mpr ?_) (And.intro (fun hs => zB_iff.mpr ?_) (And.intro (fun hs => zB_iff.mpr ?_) (And.intro (fun hs => zB_iff.mpr ?_) (And.intro (fun hs => zB_iff.mpr ?_) (And.intro (fun hs => zB_iff.mpr ?_) (And.intro (fun hs => zB_iff.mpr ?_) (And.intro (fun hs => zB_iff.mpr ?_) (And.intro (fun hs => zB_iff.mpr ?_) (And.intro (fun hs => zB_iff.mpr ?_) (And.intro (fun hs => zB_iff.mpr ?_) (And.intro (fun hs => zB_iff.mpr ?_) (And.intro (fun hs => zB_iff.mpr ?_) (And.intro (fun hs => zB_iff.mpr ?_) (And.intro (fun hs => zB_iff.mpr ?_) (And.intro (fun hs => zB_iff.mpr ?_) trivial))))))))))))))))))))))))))))))))))))))))))))))))))))
      · exact nxt T h t v 0 0 ok (Nat.le_refl _) (Or.inl ⟨by decide, by decide, rfl⟩)
      · exact lw_case0 HW HWN hsc0 hD IHP hsc hi0 ok hl1 hc1 hs1 nxt
      · exact lw_case1 HW HWN hsc0 hD IHP hsc hi0 ok hl1 hc1 hs1 nxt
      · exact lw_case2 HW HWN hsc0 hD IHP hsc hi0 ok hl1 hc1 hs1 nxt
      · exact lw_case3 HW HWN hsc0 hD IHP hsc hi0 ok hl1 hc1 hs1 nxt
      · exact lw_case4 HW HWN hsc0 hD IHP hsc hi0 ok hl1 hc1 hs1 nxt
      · exact lw_case5 HW HWN hsc0 hD IHP hsc hi0 ok hl1 hc1 hs1 nxt
      · exact lw_case6 HW HWN hsc0 hD IHP hsc hi0 ok hl1 hc1 hs1 nxt
      · exact lw_case7 HW HWN hsc0 hD IHP hsc hi0 ok hl1 hc1 hs1 nxt
      · exact lw_case8 HW HWN hsc0 hD IHP hsc hi0 ok hl1 hc1 hs1 nxt
      · exact lw_case9 HW HWN hsc0 hD IHP hsc hi0 ok hl1 hc1 hs1 nxt
      · exact lw_case10 HW HWN hsc0 hD IHP hsc hi0 ok hl1 hc1 hs1 nxt
      · exact lw_case11 HW HWN hsc0 hD IHP hsc hi0 ok hl1 hc1 hs1 nxt
      · exact lw_case12 HW HWN hsc0 hD IHP hsc hi0 ok hl1 hc1 hs1 nxt
      · exact lw_case13 HW HWN hsc0 hD IHP hsc hi0 ok hl1 hc1 hs1 nxt
      · exact lw_case14 HW HWN hsc0 hD IHP hsc hi0 ok hl1 hc1 hs1 nxt
      · exact lw_case15 HW HWN hsc0 hD IHP hsc hi0 ok hl1 hc1 hs1 nxt
      · exact lw_case16 HW HWN hsc0 hD IHP hsc hi0 ok hl1 hc1 hs1 nxt
      · exact lw_case17 HW HWN hsc0 hD IHP hsc hi0 ok hl1 hc1 hs1 nxt
      · exact lw_case18 HW HWN hsc0 hD IHP hsc hi0 ok hl1 hc1 hs1 nxt
      · exact lw_case19 HW HWN hsc0 hD IHP hsc hi0 ok hl1 hc1 hs1 nxt
      · exact lw_case20 HW HWN hsc0 hD IHP hsc hi0 ok hl1 hc1 hs1 nxt
      · exact lw_case21 HW HWN hsc0 hD IHP hsc hi0 ok hl1 hc1 hs1 nxt
      · exact lw_case22 HW HWN hsc0 hD IHP hsc hi0 ok hl1 hc1 hs1 nxt
      · exact lw_case23 HW HWN hsc0 hD IHP hsc hi0 ok hl1 hc1 hs1 nxt
      · exact lw_case24 HW HWN hsc0 hD IHP hsc hi0 ok hl1 hc1 hs1 nxt
      · exact lw_case25 HW HWN hsc0 hD IHP hsc hi0 ok hl1 hc1 hs1 nxt
      · exact lw_case26 HW HWN hsc0 hD IHP hsc hi0 ok hl1 hc1 hs1 nxt
      · exact lw_case27 HW HWN hsc0 hD IHP hsc hi0 ok hl1 hc1 hs1 nxt
      · exact lw_case28 HW HWN hsc0 hD IHP hsc hi0 ok hl1 hc1 hs1 nxt
      · exact lw_case29 HW HWN hsc0 hD IHP hsc hi0 ok hl1 hc1 hs1 nxt
      · exact lw_case30 HW HWN hsc0 hD IHP hsc hi0 ok hl1 hc1 hs1 nxt
      · exact lw_case31 HW HWN hsc0 hD IHP hsc hi0 ok hl1 hc1 hs1 nxt
      · exact lw_case32 HW HWN hsc0 hD IHP hsc hi0 ok hl1 hc1 hs1 nxt
      · exact lw_case33 HW HWN hsc0 hD IHP hsc hi0 ok hl1 hc1 hs1 nxt
      · exact lw_case34 HW HWN hsc0 hD IHP hsc hi0 ok hl1 hc1 hs1 nxt
      · exact lw_case35 HW HWN hsc0 hD IHP hsc hi0 ok hl1 hc1 hs1 nxt
      · exact lw_case36 HW HWN hsc0 hD IHP hsc hi0 ok hl1 hc1 hs1 nxt
      · exact lw_case37 HW HWN hsc0 hD IHP hsc hi0 ok hl1 hc1 hs1 nxt
      · exact lw_case38 HW HWN hsc0 hD IHP hsc hi0 ok hl1 hc1 hs1 nxt
      · exact lw_case39 HW HWN hsc0 hD IHP hsc hi0 ok hl1 hc1 hs1 nxt
      · exact lw_case40 HW HWN hsc0 hD IHP hsc hi0 ok hl1 hc1 hs1 nxt
      · exact lw_case41 HW HWN hsc0 hD IHP hsc hi0 ok hl1 hc1 hs1 nxt
      · exact lw_case42 HW HWN hsc0 hD IHP hsc hi0 ok hl1 hc1 hs1 nxt
      · exact lw_case43 HW HWN hsc0 hD IHP hsc hi0 ok hl1 hc1 hs1 nxt
      · exact lw_case44 HW HWN hsc0 hD IHP hsc hi0 ok hl1 hc1 hs1 nxt
      · exact lw_case45 HW HWN hsc0 hD IHP hsc hi0 ok hl1 hc1 hs1 nxt
      · exact lw_case46 HW HWN hsc0 hD IHP hsc hi0 ok hl1 hc1 hs1 nxt
      · exact lw_case47 HW HWN hsc0 hD IHP hsc hi0 ok hl1 hc1 hs1 nxt
      · exact lw_case48 HW HWN hsc0 hD IHP hsc hi0 ok hl1 hc1 hs1 nxt
      · exact lw_case49 HW HWN hsc0 hD IHP hsc hi0 ok hl1 hc1 hs1 nxt
      · exact lw_case50 HW HWN hsc0 hD IHP hsc hi0 ok hl1 hc1 hs1 nxt
      · exact lw_case51 HW HWN hsc0 hD IHP hsc hi0 ok hl1 hc1 hs1 nxt
