def zh0 : zH := [(4, [.inl (.ref 1), .inl (.ref 9), .inl (.ref 17), .inl (.ref 25), .inl (.ref 29), .inl (.ref 31), .inl (.ref 32), .inl (.int 0)]),
  (1, [.inl (.int 20), .inl (.int 5), .inl (.int 10), .inl (.int 40), .inl (.int 0), .inl (.int 0), .inl (.int 1), .inl (.long 2097150), .inl (.int 0), .inl (.ref 2), .inl (.ref 3), .inl (.ref 4), .inl (.ref 5), .inl (.ref 6), .inl (.int 0), .inl (.ref 7), .inl (.ref 8)]),
  (10, List.replicate 8 (.inl (.int 0))),
  (10, List.replicate 8 (.inl (.int 0))),
  (10, List.replicate 8 (.inl (.int 0))),
  (10, List.replicate 8 (.inl (.int 0))),
  (10, List.replicate 8 (.inl (.int 0))),
  (10, List.replicate 4 (.inl (.int 0))),
  (10, List.replicate 32 (.inl (.int 0))),
  (1, [.inl (.int 20), .inl (.int 5), .inl (.int 10), .inl (.int 40), .inl (.int 0), .inl (.int 0), .inl (.int 1), .inl (.long 2097150), .inl (.int 0), .inl (.ref 10), .inl (.ref 11), .inl (.ref 12), .inl (.ref 13), .inl (.ref 14), .inl (.int 0), .inl (.ref 15), .inl (.ref 16)]),
  (10, List.replicate 8 (.inl (.int 0))),
  (10, List.replicate 8 (.inl (.int 0))),
  (10, List.replicate 8 (.inl (.int 0))),
  (10, List.replicate 8 (.inl (.int 0))),
  (10, List.replicate 8 (.inl (.int 0))),
  (10, List.replicate 4 (.inl (.int 0))),
  (10, List.replicate 32 (.inl (.int 0))),
  (1, [.inl (.int 20), .inl (.int 5), .inl (.int 10), .inl (.int 40), .inl (.int 0), .inl (.int 0), .inl (.int 1), .inl (.long 2097150), .inl (.int 0), .inl (.ref 18), .inl (.ref 19), .inl (.ref 20), .inl (.ref 21), .inl (.ref 22), .inl (.int 0), .inl (.ref 23), .inl (.ref 24)]),
  (10, List.replicate 8 (.inl (.int 0))),
  (10, List.replicate 8 (.inl (.int 0))),
  (10, List.replicate 8 (.inl (.int 0))),
  (10, List.replicate 8 (.inl (.int 0))),
  (10, List.replicate 8 (.inl (.int 0))),
  (10, List.replicate 4 (.inl (.int 0))),
  (10, List.replicate 32 (.inl (.int 0))),
  (3, [.inl (.ref 26), .inl (.ref 27), .inl (.ref 28), .inl (.int 0), .inl (.int 0), .inl (.int 0), .inl (.int 0)]),
  (10, List.replicate 256 (.inl (.int 0))),
  (10, List.replicate 488 (.inl (.int 0))),
  (10, List.replicate 256 (.inl (.int 0))),
  (2, [.inl (.ref 30), .inl (.int 0), .inl (.int 0), .inl (.int 0), .inl (.int 0), .inl (.int (-1))]),
  (10, List.replicate 250 (.inl (.int 0))),
  (12, [.inl (.ref 33), .inl (.ref 35), .inl (.ref 37), .inl (.ref 39), .inl (.ref 41), .inl (.ref 43), .inl (.ref 45), .inl (.ref 47)]),
  (10, List.replicate 5 (.inl (.int 0))),
  (0, [.inl (.int (-1)), .inl (.int 0), .inl (.ref 34)]),
  (11, List.replicate 40 (.inl (.long 0))),
  (0, [.inl (.int (-1)), .inl (.int 0), .inl (.ref 36)]),
  (11, List.replicate 40 (.inl (.long 0))),
  (0, [.inl (.int (-1)), .inl (.int 0), .inl (.ref 38)]),
  (11, List.replicate 40 (.inl (.long 0))),
  (0, [.inl (.int (-1)), .inl (.int 0), .inl (.ref 40)]),
  (11, List.replicate 40 (.inl (.long 0))),
  (0, [.inl (.int (-1)), .inl (.int 0), .inl (.ref 42)]),
  (11, List.replicate 40 (.inl (.long 0))),
  (0, [.inl (.int (-1)), .inl (.int 0), .inl (.ref 44)]),
  (11, List.replicate 40 (.inl (.long 0))),
  (0, [.inl (.int (-1)), .inl (.int 0), .inl (.ref 46)]),
  (11, List.replicate 40 (.inl (.long 0))),
  (0, [.inl (.int (-1)), .inl (.int 0), .inl (.ref 48)]),
  (11, List.replicate 40 (.inl (.long 0))),
  (5, [.inl (.ref 50), .inl (.ref 51), .inl (.ref 52), .inl (.ref 53), .inl (.ref 62), .inl (.ref 63), .inl (.ref 64), .inl (.int 0), .inl (.ref 65), .inl (.int 20), .inl (.int 5), .inl (.int 10), .inl (.int 40), .inl (.int 0), .inl (.int 0), .inl (.int 1), .inl (.ref 66), .inl (.int 0), .inl (.ref 67), .inl (.ref 68), .inl (.ref 69), .inl (.ref 70), .inl (.ref 71), .inl (.int 0), .inl (.ref 72), .inl (.ref 73), .inl .null, .inl .null, .inl (.int 0), .inl (.int 0), .inl (.int 0), .inl (.int 0), .inl (.int 0), .inl (.ref 78), .inl (.int 0), .inl .null, .inl (.int 0), .inl (.int 0), .inl (.int 0), .inl (.int 0), .inl (.int 0)]),
  (10, List.replicate 8 (.inl (.int 0))),
  (10, List.replicate 8 (.inl (.int 0))),
  (10, List.replicate 8 (.inl (.int 0))),
  (13, [.inl (.ref 54), .inl (.ref 55), .inl (.ref 56), .inl (.ref 57), .inl (.ref 58), .inl (.ref 59), .inl (.ref 60), .inl (.ref 61)]),
  (11, List.replicate 40 (.inl (.long 0))),
  (11, List.replicate 40 (.inl (.long 0))),
  (11, List.replicate 40 (.inl (.long 0))),
  (11, List.replicate 40 (.inl (.long 0))),
  (11, List.replicate 40 (.inl (.long 0))),
  (11, List.replicate 40 (.inl (.long 0))),
  (11, List.replicate 40 (.inl (.long 0))),
  (11, List.replicate 40 (.inl (.long 0))),
  (11, List.replicate 40 (.inl (.long 0))),
  (10, List.replicate 8 (.inl (.int 0))),
  (10, List.replicate 250 (.inl (.int 0))),
  (10, List.replicate 8 (.inl (.int 0))),
  (10, List.replicate 61 (.inl (.int 0))),
  (10, List.replicate 8 (.inl (.int 0))),
  (10, List.replicate 8 (.inl (.int 0))),
  (10, List.replicate 8 (.inl (.int 0))),
  (10, List.replicate 8 (.inl (.int 0))),
  (10, List.replicate 8 (.inl (.int 0))),
  (10, List.replicate 4 (.inl (.int 0))),
  (14, [.inl (.ref 74), .inl (.ref 75), .inl (.ref 76), .inl (.ref 77)]),
  (10, List.replicate 8 (.inl (.int 0))),
  (10, List.replicate 8 (.inl (.int 0))),
  (10, List.replicate 8 (.inl (.int 0))),
  (10, List.replicate 8 (.inl (.int 0))),
  (10, [.inl (.int 0), .inl (.int 0), .inl (.int 0)])]
def zl0s : zL := [(3, .inl (.int 0)), (2, .inl (.ref 49)), (1, .inl (.ref 0)), (0, .inl (.ref 10000000))]
noncomputable def zop1 (pc : Nat) (scr : List zV) : Bool := zrun zNf zdfl zslen zprog ze_L_law scr 600000 7302250 (zdeep zNf zdfl zslen zprog scr 10) (fun _ _ => false) (fun r _ => decide (r = some (.inl (.int 1)))) 2000 (pc, zl0s, [], zh0, 79, 2750)
def zscr (t : List zV) : List zV := zI0 :: (t ++ List.replicate (5 - t.length) zI0)
def zallT : List (List (Int × Int)) → (List zV → Bool) → Bool
  | [], f => f []
  | P :: Ps, f => P.all (fun q => zallT Ps (fun t => f (zmk q.1 q.2 :: t)))
def zcovF : Int → List (Int × Int) → Bool
  | lo, [] => decide (2147483647 < lo)
  | lo, q :: r => decide (q.1 = lo) && zcovF (q.2 + 1) r
def zcov (P : List (Int × Int)) : Bool := zcovF (-2147483648) P
theorem zcovF_sp : ∀ (P : List (Int × Int)) (lo : Int), zcovF lo P = true → ∀ x : Int, lo ≤ x → x ≤ 2147483647 → ∃ q ∈ P, q.1 ≤ x ∧ x ≤ q.2
  | [], lo, h, x, h1, h2 => by
    have h3 : 2147483647 < lo := of_decide_eq_true h
    omega
  | q :: r, lo, h, x, h1, h2 => by
    obtain ⟨h3, h4⟩ := z_and h
    have h3 : q.1 = lo := of_decide_eq_true h3
    by_cases hx : x ≤ q.2
    · exact ⟨q, List.mem_cons_self, by omega, hx⟩
    · obtain ⟨q', h5, h6⟩ := zcovF_sp r (q.2 + 1) h4 x (by omega) h2
      exact ⟨q', List.mem_cons_of_mem _ h5, h6⟩
theorem zmk_I (lo hi : Int) : zisI (zmk lo hi) = true := by
  unfold zmk
  split <;> rfl
theorem z_i32 (x : Int32) : -2147483648 ≤ x.toInt ∧ x.toInt ≤ 2147483647 := by
  have h1 := x.le_toInt
  have h2 := x.toInt_lt
  have h3 : -2147483648 ≤ x.toInt := by simpa using h1
  have h4 : x.toInt < 2147483648 := by simpa using h2
  exact ⟨h3, by omega⟩
theorem z_cover : ∀ (Ps : List (List (Int × Int))) (f : List zV → Bool) (ys : Nat → Int32), zallT Ps f = true → Ps.all zcov = true → ∃ t : List zV, f t = true ∧ t.length = Ps.length ∧ ∀ (j : Nat) (v : zV), t[j]? = some v → zisI v = true ∧ zg (fun _ => none) v (.int (ys j))
  | [], f, ys, h, _ => ⟨[], h, rfl, fun j v hj => by simp at hj⟩
  | P :: Ps, f, ys, h, hc => by
    rw [List.all_cons] at hc
    obtain ⟨h1, h2⟩ := z_and hc
    obtain ⟨q, hq, hq2⟩ := zcovF_sp P _ h1 (ys 0).toInt (z_i32 _).1 (z_i32 _).2
    have h3 : zallT Ps (fun t => f (zmk q.1 q.2 :: t)) = true := List.all_eq_true.mp h q hq
    obtain ⟨t, h4, h5, h6⟩ := z_cover Ps (fun t => f (zmk q.1 q.2 :: t)) (fun j => ys (j + 1)) h3 h2
    refine ⟨zmk q.1 q.2 :: t, h4, by simp [h5], fun j v hj => ?_⟩
    cases j with
    | zero =>
      cases hj
      exact ⟨zmk_I _ _, zmk_g hq2.1 hq2.2⟩
    | succ j => exact h6 j v (by simpa using hj)
theorem zscr_rel {t : List zV} {xs : Nat → Int32} (hl : t.length ≤ 5) (h : ∀ (j : Nat) (v : zV), t[j]? = some v → zisI v = true ∧ zg (fun _ => none) v (.int (xs (j + 1)))) : (zscr t).length = 6 ∧ ∀ (j : Nat) (v : zV), (zscr t)[j]? = some v → zisI v = true ∧ zg (fun _ => none) v (.int (xs j)) := by
  refine ⟨by unfold zscr; simp; omega, fun j v hj => ?_⟩
  unfold zscr at hj
  cases j with
  | zero =>
    cases hj
    exact ⟨rfl, zg_I0 _ _⟩
  | succ j =>
    rw [List.getElem?_cons_succ] at hj
    by_cases hj2 : j < t.length
    · rw [List.getElem?_append_left hj2] at hj
      exact h j v hj
    · rw [List.getElem?_append_right (by omega)] at hj
      have h2 := List.eq_of_mem_replicate (List.mem_of_getElem? hj)
      rw [h2]
      exact ⟨rfl, zg_I0 _ _⟩
theorem zd_27 : decode code 27 = .ok (.aload_n 0, 1) := by decide +kernel
theorem zd_28 : decode code 28 = .ok (.iload_n 3, 1) := by decide +kernel
theorem zd_29 : decode code 29 = .ok (.iaload, 1) := by decide +kernel
theorem zd_30 : decode code 30 = .ok (.bipush 63, 2) := by decide +kernel
theorem zd_32 : decode code 32 = .ok (.iand, 1) := by decide +kernel
def zoffs : Array Int := #[223, 266, 339, 402, 436, 459, 492, 525, 548, 571, 604, 647, 670, 713, 746, 769, 782, 795, 828, 861, 894, 907, 930, 953, 976, 999, 1022, 1055, 1078, 1101, 1114, 1127, 1160, 1193, 1226, 1249, 1282, 1315, 1358, 1381, 1404, 1427, 1440, 1453, 1466, 1489, 1512, 1535, 1558, 1581, 1594, 1607]
theorem zd_33 : decode code 33 = .ok (.tableswitch 1630 0 51 zoffs, 223) := by decide +kernel
def ztgs : List Nat := [256, 299, 372, 435, 469, 492, 525, 558, 581, 604, 637, 680, 703, 746, 779, 802, 815, 828, 861, 894, 927, 940, 963, 986, 1009, 1032, 1055, 1088, 1111, 1134, 1147, 1160, 1193, 1226, 1259, 1282, 1315, 1348, 1391, 1414, 1437, 1460, 1473, 1486, 1499, 1522, 1545, 1568, 1591, 1614, 1627, 1640]
theorem ztg_ok : ∀ j, j < 52 → zoffs[j]? = some ((ztgs.getD j 0 : Nat) - 33 : Int) := by decide +kernel
