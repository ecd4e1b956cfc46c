def zh0 : zH := [(4, [.inl (.ref 1), .inl (.ref 9), .inl (.ref 17), .inl (.ref 25), .inl (.ref 29), .inl (.ref 31), .inl (.ref 32), .inl (.int (0))]),
  (1, [.inl (.int (20)), .inl (.int (5)), .inl (.int (10)), .inl (.int (40)), .inl (.int (0)), .inl (.int (0)), .inl (.int (1)), .inl (.long (2097150)), .inl (.int (0)), .inl (.ref 2), .inl (.ref 3), .inl (.ref 4), .inl (.ref 5), .inl (.ref 6), .inl (.int (0)), .inl (.ref 7), .inl (.ref 8)]),
  (10, List.replicate 8 (.inl (.int (0)))),
  (10, List.replicate 8 (.inl (.int (0)))),
  (10, List.replicate 8 (.inl (.int (0)))),
  (10, List.replicate 8 (.inl (.int (0)))),
  (10, List.replicate 8 (.inl (.int (0)))),
  (10, List.replicate 4 (.inl (.int (0)))),
  (10, List.replicate 32 (.inl (.int (0)))),
  (1, [.inl (.int (20)), .inl (.int (5)), .inl (.int (10)), .inl (.int (40)), .inl (.int (0)), .inl (.int (0)), .inl (.int (1)), .inl (.long (2097150)), .inl (.int (0)), .inl (.ref 10), .inl (.ref 11), .inl (.ref 12), .inl (.ref 13), .inl (.ref 14), .inl (.int (0)), .inl (.ref 15), .inl (.ref 16)]),
  (10, List.replicate 8 (.inl (.int (0)))),
  (10, List.replicate 8 (.inl (.int (0)))),
  (10, List.replicate 8 (.inl (.int (0)))),
  (10, List.replicate 8 (.inl (.int (0)))),
  (10, List.replicate 8 (.inl (.int (0)))),
  (10, List.replicate 4 (.inl (.int (0)))),
  (10, List.replicate 32 (.inl (.int (0)))),
  (1, [.inl (.int (20)), .inl (.int (5)), .inl (.int (10)), .inl (.int (40)), .inl (.int (0)), .inl (.int (0)), .inl (.int (1)), .inl (.long (2097150)), .inl (.int (0)), .inl (.ref 18), .inl (.ref 19), .inl (.ref 20), .inl (.ref 21), .inl (.ref 22), .inl (.int (0)), .inl (.ref 23), .inl (.ref 24)]),
  (10, List.replicate 8 (.inl (.int (0)))),
  (10, List.replicate 8 (.inl (.int (0)))),
  (10, List.replicate 8 (.inl (.int (0)))),
  (10, List.replicate 8 (.inl (.int (0)))),
  (10, List.replicate 8 (.inl (.int (0)))),
  (10, List.replicate 4 (.inl (.int (0)))),
  (10, List.replicate 32 (.inl (.int (0)))),
  (3, [.inl (.ref 26), .inl (.ref 27), .inl (.ref 28), .inl (.int (0)), .inl (.int (0)), .inl (.int (0)), .inl (.int (0))]),
  (10, List.replicate 256 (.inl (.int (0)))),
  (10, List.replicate 488 (.inl (.int (0)))),
  (10, List.replicate 256 (.inl (.int (0)))),
  (2, [.inl (.ref 30), .inl (.int (0)), .inl (.int (0)), .inl (.int (0)), .inl (.int (0)), .inl (.int (-1))]),
  (10, List.replicate 250 (.inl (.int (0)))),
  (12, [.inl (.ref 33), .inl (.ref 35), .inl (.ref 37), .inl (.ref 39), .inl (.ref 41), .inl (.ref 43), .inl (.ref 45), .inl (.ref 47)]),
  (10, List.replicate 5 (.inl (.int (0)))),
  (0, [.inl (.int (-1)), .inl (.int (0)), .inl (.ref 34)]),
  (11, List.replicate 40 (.inl (.long (0)))),
  (0, [.inl (.int (-1)), .inl (.int (0)), .inl (.ref 36)]),
  (11, List.replicate 40 (.inl (.long (0)))),
  (0, [.inl (.int (-1)), .inl (.int (0)), .inl (.ref 38)]),
  (11, List.replicate 40 (.inl (.long (0)))),
  (0, [.inl (.int (-1)), .inl (.int (0)), .inl (.ref 40)]),
  (11, List.replicate 40 (.inl (.long (0)))),
  (0, [.inl (.int (-1)), .inl (.int (0)), .inl (.ref 42)]),
  (11, List.replicate 40 (.inl (.long (0)))),
  (0, [.inl (.int (-1)), .inl (.int (0)), .inl (.ref 44)]),
  (11, List.replicate 40 (.inl (.long (0)))),
  (0, [.inl (.int (-1)), .inl (.int (0)), .inl (.ref 46)]),
  (11, List.replicate 40 (.inl (.long (0)))),
  (0, [.inl (.int (-1)), .inl (.int (0)), .inl (.ref 48)]),
  (11, List.replicate 40 (.inl (.long (0)))),
  (5, [.inl (.ref 50), .inl (.ref 51), .inl (.ref 52), .inl (.ref 53), .inl (.ref 62), .inl (.ref 63), .inl (.ref 64), .inl (.int (0)), .inl (.ref 65), .inl (.int (20)), .inl (.int (5)), .inl (.int (10)), .inl (.int (40)), .inl (.int (0)), .inl (.int (0)), .inl (.int (1)), .inl (.ref 66), .inl (.int (0)), .inl (.ref 67), .inl (.ref 68), .inl (.ref 69), .inl (.ref 70), .inl (.ref 71), .inl (.int (0)), .inl (.ref 72), .inl (.ref 73), .inl .null, .inl .null, .inl (.int (0)), .inl (.int (0)), .inl (.int (0)), .inl (.int (0)), .inl (.int (0)), .inl (.ref 78), .inl (.int (0)), .inl .null, .inl (.int (0)), .inl (.int (0)), .inl (.int (0)), .inl (.int (0)), .inl (.int (0))]),
  (10, List.replicate 8 (.inl (.int (0)))),
  (10, List.replicate 8 (.inl (.int (0)))),
  (10, List.replicate 8 (.inl (.int (0)))),
  (13, [.inl (.ref 54), .inl (.ref 55), .inl (.ref 56), .inl (.ref 57), .inl (.ref 58), .inl (.ref 59), .inl (.ref 60), .inl (.ref 61)]),
  (11, List.replicate 40 (.inl (.long (0)))),
  (11, List.replicate 40 (.inl (.long (0)))),
  (11, List.replicate 40 (.inl (.long (0)))),
  (11, List.replicate 40 (.inl (.long (0)))),
  (11, List.replicate 40 (.inl (.long (0)))),
  (11, List.replicate 40 (.inl (.long (0)))),
  (11, List.replicate 40 (.inl (.long (0)))),
  (11, List.replicate 40 (.inl (.long (0)))),
  (11, List.replicate 40 (.inl (.long (0)))),
  (10, List.replicate 8 (.inl (.int (0)))),
  (10, List.replicate 250 (.inl (.int (0)))),
  (10, List.replicate 8 (.inl (.int (0)))),
  (10, List.replicate 61 (.inl (.int (0)))),
  (10, List.replicate 8 (.inl (.int (0)))),
  (10, List.replicate 8 (.inl (.int (0)))),
  (10, List.replicate 8 (.inl (.int (0)))),
  (10, List.replicate 8 (.inl (.int (0)))),
  (10, List.replicate 8 (.inl (.int (0)))),
  (10, List.replicate 4 (.inl (.int (0)))),
  (14, [.inl (.ref 74), .inl (.ref 75), .inl (.ref 76), .inl (.ref 77)]),
  (10, List.replicate 8 (.inl (.int (0)))),
  (10, List.replicate 8 (.inl (.int (0)))),
  (10, List.replicate 8 (.inl (.int (0)))),
  (10, List.replicate 8 (.inl (.int (0)))),
  (10, [.inl (.int (0)), .inl (.int (0)), .inl (.int (0))])]
def zT0 : List Nat := [4, 1, 11, 12, 13, 14, 15, 16, 17, 1, 11, 12, 13, 14, 15, 16, 17, 1, 11, 12, 13, 14, 15, 16, 17, 3, 19, 20, 21, 2, 18, 22, 23, 0, 10, 0, 10, 0, 10, 0, 10, 0, 10, 0, 10, 0, 10, 0, 10, 5, 24, 25, 26, 27, 28, 28, 28, 28, 28, 28, 28, 28, 28, 29, 18, 30, 31, 32, 33, 34, 35, 36, 37, 38, 39, 39, 39, 39, 40]
theorem c0_0 : okC zT0 4 (4, [.inl (.ref 1), .inl (.ref 9), .inl (.ref 17), .inl (.ref 25), .inl (.ref 29), .inl (.ref 31), .inl (.ref 32), .inl (.int (0))]) := by
  refine ⟨rfl, rfl, fun i v hv => ?_⟩
  match i, hv with
  | 0, hv =>
    obtain rfl := Option.some.inj hv
    exact ⟨_, rfl, rfl⟩
  | 1, hv =>
    obtain rfl := Option.some.inj hv
    exact ⟨_, rfl, rfl⟩
  | 2, hv =>
    obtain rfl := Option.some.inj hv
    exact ⟨_, rfl, rfl⟩
  | 3, hv =>
    obtain rfl := Option.some.inj hv
    exact ⟨_, rfl, rfl⟩
  | 4, hv =>
    obtain rfl := Option.some.inj hv
    exact ⟨_, rfl, rfl⟩
  | 5, hv =>
    obtain rfl := Option.some.inj hv
    exact ⟨_, rfl, rfl⟩
  | 6, hv =>
    obtain rfl := Option.some.inj hv
    exact ⟨_, rfl, rfl⟩
  | 7, hv =>
    obtain rfl := Option.some.inj hv
    exact ⟨(0), rfl, by show (0 : Int) ≤ (0); decide, by show ((0) : Int) ≤ 1; decide⟩
  | _ + 8, hv => cases hv
theorem c0_1 : okC zT0 1 (1, [.inl (.int (20)), .inl (.int (5)), .inl (.int (10)), .inl (.int (40)), .inl (.int (0)), .inl (.int (0)), .inl (.int (1)), .inl (.long (2097150)), .inl (.int (0)), .inl (.ref 2), .inl (.ref 3), .inl (.ref 4), .inl (.ref 5), .inl (.ref 6), .inl (.int (0)), .inl (.ref 7), .inl (.ref 8)]) := by
  refine ⟨rfl, rfl, fun i v hv => ?_⟩
  match i, hv with
  | 0, hv =>
    obtain rfl := Option.some.inj hv
    exact ⟨(20), rfl, by show (1 : Int) ≤ (20); decide, by show ((20) : Int) ≤ 60; decide⟩
  | 1, hv =>
    obtain rfl := Option.some.inj hv
    exact ⟨(5), rfl, by show (2 : Int) ≤ (5); decide, by show ((5) : Int) ≤ 10; decide⟩
  | 2, hv =>
    obtain rfl := Option.some.inj hv
    exact ⟨(10), rfl, by show ((-2147483648) : Int) ≤ (10); decide, by show ((10) : Int) ≤ 2147483647; decide⟩
  | 3, hv =>
    obtain rfl := Option.some.inj hv
    exact ⟨(40), rfl, by show ((-2147483648) : Int) ≤ (40); decide, by show ((40) : Int) ≤ 2147483647; decide⟩
  | 4, hv =>
    obtain rfl := Option.some.inj hv
    exact ⟨(0), rfl, by show ((-2147483648) : Int) ≤ (0); decide, by show ((0) : Int) ≤ 2147483647; decide⟩
  | 5, hv =>
    obtain rfl := Option.some.inj hv
    exact ⟨(0), rfl, by show ((-2147483648) : Int) ≤ (0); decide, by show ((0) : Int) ≤ 2147483647; decide⟩
  | 6, hv =>
    obtain rfl := Option.some.inj hv
    exact ⟨(1), rfl, by show ((-2147483648) : Int) ≤ (1); decide, by show ((1) : Int) ≤ 2147483647; decide⟩
  | 7, hv =>
    obtain rfl := Option.some.inj hv
    exact ⟨_, rfl⟩
  | 8, hv =>
    obtain rfl := Option.some.inj hv
    exact ⟨(0), rfl, by show (0 : Int) ≤ (0); decide, by show ((0) : Int) ≤ 8; decide⟩
  | 9, hv =>
    obtain rfl := Option.some.inj hv
    exact ⟨_, rfl, rfl⟩
  | 10, hv =>
    obtain rfl := Option.some.inj hv
    exact ⟨_, rfl, rfl⟩
  | 11, hv =>
    obtain rfl := Option.some.inj hv
    exact ⟨_, rfl, rfl⟩
  | 12, hv =>
    obtain rfl := Option.some.inj hv
    exact ⟨_, rfl, rfl⟩
  | 13, hv =>
    obtain rfl := Option.some.inj hv
    exact ⟨_, rfl, rfl⟩
  | 14, hv =>
    obtain rfl := Option.some.inj hv
    exact ⟨(0), rfl, by show (0 : Int) ≤ (0); decide, by show ((0) : Int) ≤ 4; decide⟩
  | 15, hv =>
    obtain rfl := Option.some.inj hv
    exact ⟨_, rfl, rfl⟩
  | 16, hv =>
    obtain rfl := Option.some.inj hv
    exact ⟨_, rfl, rfl⟩
  | _ + 17, hv => cases hv
theorem c0_2 : okC zT0 11 (10, List.replicate 8 (.inl (.int (0)))) := okC_rep rfl rfl (fun _ => ⟨(0), rfl, by show ((-2147483648) : Int) ≤ (0); decide, by show ((0) : Int) ≤ 2147483647; decide⟩)
theorem c0_3 : okC zT0 12 (10, List.replicate 8 (.inl (.int (0)))) := okC_rep rfl rfl (fun _ => ⟨(0), rfl, by show ((-2147483648) : Int) ≤ (0); decide, by show ((0) : Int) ≤ 2147483647; decide⟩)
theorem c0_4 : okC zT0 13 (10, List.replicate 8 (.inl (.int (0)))) := okC_rep rfl rfl (fun _ => ⟨(0), rfl, by show ((-2147483648) : Int) ≤ (0); decide, by show ((0) : Int) ≤ 2147483647; decide⟩)
theorem c0_5 : okC zT0 14 (10, List.replicate 8 (.inl (.int (0)))) := okC_rep rfl rfl (fun _ => ⟨(0), rfl, by show ((-2147483648) : Int) ≤ (0); decide, by show ((0) : Int) ≤ 2147483647; decide⟩)
theorem c0_6 : okC zT0 15 (10, List.replicate 8 (.inl (.int (0)))) := okC_rep rfl rfl (fun _ => ⟨(0), rfl, by show ((-1) : Int) ≤ (0); decide, by show ((0) : Int) ≤ 3; decide⟩)
theorem c0_7 : okC zT0 16 (10, List.replicate 4 (.inl (.int (0)))) := okC_rep rfl rfl (fun _ => ⟨(0), rfl, by show ((-2147483648) : Int) ≤ (0); decide, by show ((0) : Int) ≤ 2147483647; decide⟩)
theorem c0_8 : okC zT0 17 (10, List.replicate 32 (.inl (.int (0)))) := okC_rep rfl rfl (fun _ => ⟨(0), rfl, by show ((-2147483648) : Int) ≤ (0); decide, by show ((0) : Int) ≤ 2147483647; decide⟩)
theorem c0_9 : okC zT0 1 (1, [.inl (.int (20)), .inl (.int (5)), .inl (.int (10)), .inl (.int (40)), .inl (.int (0)), .inl (.int (0)), .inl (.int (1)), .inl (.long (2097150)), .inl (.int (0)), .inl (.ref 10), .inl (.ref 11), .inl (.ref 12), .inl (.ref 13), .inl (.ref 14), .inl (.int (0)), .inl (.ref 15), .inl (.ref 16)]) := by
  refine ⟨rfl, rfl, fun i v hv => ?_⟩
  match i, hv with
  | 0, hv =>
    obtain rfl := Option.some.inj hv
    exact ⟨(20), rfl, by show (1 : Int) ≤ (20); decide, by show ((20) : Int) ≤ 60; decide⟩
  | 1, hv =>
    obtain rfl := Option.some.inj hv
    exact ⟨(5), rfl, by show (2 : Int) ≤ (5); decide, by show ((5) : Int) ≤ 10; decide⟩
  | 2, hv =>
    obtain rfl := Option.some.inj hv
    exact ⟨(10), rfl, by show ((-2147483648) : Int) ≤ (10); decide, by show ((10) : Int) ≤ 2147483647; decide⟩
  | 3, hv =>
    obtain rfl := Option.some.inj hv
    exact ⟨(40), rfl, by show ((-2147483648) : Int) ≤ (40); decide, by show ((40) : Int) ≤ 2147483647; decide⟩
  | 4, hv =>
    obtain rfl := Option.some.inj hv
    exact ⟨(0), rfl, by show ((-2147483648) : Int) ≤ (0); decide, by show ((0) : Int) ≤ 2147483647; decide⟩
  | 5, hv =>
    obtain rfl := Option.some.inj hv
    exact ⟨(0), rfl, by show ((-2147483648) : Int) ≤ (0); decide, by show ((0) : Int) ≤ 2147483647; decide⟩
  | 6, hv =>
    obtain rfl := Option.some.inj hv
    exact ⟨(1), rfl, by show ((-2147483648) : Int) ≤ (1); decide, by show ((1) : Int) ≤ 2147483647; decide⟩
  | 7, hv =>
    obtain rfl := Option.some.inj hv
    exact ⟨_, rfl⟩
  | 8, hv =>
    obtain rfl := Option.some.inj hv
    exact ⟨(0), rfl, by show (0 : Int) ≤ (0); decide, by show ((0) : Int) ≤ 8; decide⟩
  | 9, hv =>
    obtain rfl := Option.some.inj hv
    exact ⟨_, rfl, rfl⟩
  | 10, hv =>
    obtain rfl := Option.some.inj hv
    exact ⟨_, rfl, rfl⟩
  | 11, hv =>
    obtain rfl := Option.some.inj hv
    exact ⟨_, rfl, rfl⟩
  | 12, hv =>
    obtain rfl := Option.some.inj hv
    exact ⟨_, rfl, rfl⟩
  | 13, hv =>
    obtain rfl := Option.some.inj hv
    exact ⟨_, rfl, rfl⟩
  | 14, hv =>
    obtain rfl := Option.some.inj hv
    exact ⟨(0), rfl, by show (0 : Int) ≤ (0); decide, by show ((0) : Int) ≤ 4; decide⟩
  | 15, hv =>
    obtain rfl := Option.some.inj hv
    exact ⟨_, rfl, rfl⟩
  | 16, hv =>
    obtain rfl := Option.some.inj hv
    exact ⟨_, rfl, rfl⟩
  | _ + 17, hv => cases hv
theorem c0_10 : okC zT0 11 (10, List.replicate 8 (.inl (.int (0)))) := okC_rep rfl rfl (fun _ => ⟨(0), rfl, by show ((-2147483648) : Int) ≤ (0); decide, by show ((0) : Int) ≤ 2147483647; decide⟩)
theorem c0_11 : okC zT0 12 (10, List.replicate 8 (.inl (.int (0)))) := okC_rep rfl rfl (fun _ => ⟨(0), rfl, by show ((-2147483648) : Int) ≤ (0); decide, by show ((0) : Int) ≤ 2147483647; decide⟩)
theorem c0_12 : okC zT0 13 (10, List.replicate 8 (.inl (.int (0)))) := okC_rep rfl rfl (fun _ => ⟨(0), rfl, by show ((-2147483648) : Int) ≤ (0); decide, by show ((0) : Int) ≤ 2147483647; decide⟩)
theorem c0_13 : okC zT0 14 (10, List.replicate 8 (.inl (.int (0)))) := okC_rep rfl rfl (fun _ => ⟨(0), rfl, by show ((-2147483648) : Int) ≤ (0); decide, by show ((0) : Int) ≤ 2147483647; decide⟩)
theorem c0_14 : okC zT0 15 (10, List.replicate 8 (.inl (.int (0)))) := okC_rep rfl rfl (fun _ => ⟨(0), rfl, by show ((-1) : Int) ≤ (0); decide, by show ((0) : Int) ≤ 3; decide⟩)
theorem c0_15 : okC zT0 16 (10, List.replicate 4 (.inl (.int (0)))) := okC_rep rfl rfl (fun _ => ⟨(0), rfl, by show ((-2147483648) : Int) ≤ (0); decide, by show ((0) : Int) ≤ 2147483647; decide⟩)
theorem c0_16 : okC zT0 17 (10, List.replicate 32 (.inl (.int (0)))) := okC_rep rfl rfl (fun _ => ⟨(0), rfl, by show ((-2147483648) : Int) ≤ (0); decide, by show ((0) : Int) ≤ 2147483647; decide⟩)
theorem c0_17 : okC zT0 1 (1, [.inl (.int (20)), .inl (.int (5)), .inl (.int (10)), .inl (.int (40)), .inl (.int (0)), .inl (.int (0)), .inl (.int (1)), .inl (.long (2097150)), .inl (.int (0)), .inl (.ref 18), .inl (.ref 19), .inl (.ref 20), .inl (.ref 21), .inl (.ref 22), .inl (.int (0)), .inl (.ref 23), .inl (.ref 24)]) := by
  refine ⟨rfl, rfl, fun i v hv => ?_⟩
  match i, hv with
  | 0, hv =>
    obtain rfl := Option.some.inj hv
    exact ⟨(20), rfl, by show (1 : Int) ≤ (20); decide, by show ((20) : Int) ≤ 60; decide⟩
  | 1, hv =>
    obtain rfl := Option.some.inj hv
    exact ⟨(5), rfl, by show (2 : Int) ≤ (5); decide, by show ((5) : Int) ≤ 10; decide⟩
  | 2, hv =>
    obtain rfl := Option.some.inj hv
    exact ⟨(10), rfl, by show ((-2147483648) : Int) ≤ (10); decide, by show ((10) : Int) ≤ 2147483647; decide⟩
  | 3, hv =>
    obtain rfl := Option.some.inj hv
    exact ⟨(40), rfl, by show ((-2147483648) : Int) ≤ (40); decide, by show ((40) : Int) ≤ 2147483647; decide⟩
  | 4, hv =>
    obtain rfl := Option.some.inj hv
    exact ⟨(0), rfl, by show ((-2147483648) : Int) ≤ (0); decide, by show ((0) : Int) ≤ 2147483647; decide⟩
  | 5, hv =>
    obtain rfl := Option.some.inj hv
    exact ⟨(0), rfl, by show ((-2147483648) : Int) ≤ (0); decide, by show ((0) : Int) ≤ 2147483647; decide⟩
  | 6, hv =>
    obtain rfl := Option.some.inj hv
    exact ⟨(1), rfl, by show ((-2147483648) : Int) ≤ (1); decide, by show ((1) : Int) ≤ 2147483647; decide⟩
  | 7, hv =>
    obtain rfl := Option.some.inj hv
    exact ⟨_, rfl⟩
  | 8, hv =>
    obtain rfl := Option.some.inj hv
    exact ⟨(0), rfl, by show (0 : Int) ≤ (0); decide, by show ((0) : Int) ≤ 8; decide⟩
  | 9, hv =>
    obtain rfl := Option.some.inj hv
    exact ⟨_, rfl, rfl⟩
  | 10, hv =>
    obtain rfl := Option.some.inj hv
    exact ⟨_, rfl, rfl⟩
  | 11, hv =>
    obtain rfl := Option.some.inj hv
    exact ⟨_, rfl, rfl⟩
  | 12, hv =>
    obtain rfl := Option.some.inj hv
    exact ⟨_, rfl, rfl⟩
  | 13, hv =>
    obtain rfl := Option.some.inj hv
    exact ⟨_, rfl, rfl⟩
  | 14, hv =>
    obtain rfl := Option.some.inj hv
    exact ⟨(0), rfl, by show (0 : Int) ≤ (0); decide, by show ((0) : Int) ≤ 4; decide⟩
  | 15, hv =>
    obtain rfl := Option.some.inj hv
    exact ⟨_, rfl, rfl⟩
  | 16, hv =>
    obtain rfl := Option.some.inj hv
    exact ⟨_, rfl, rfl⟩
  | _ + 17, hv => cases hv
theorem c0_18 : okC zT0 11 (10, List.replicate 8 (.inl (.int (0)))) := okC_rep rfl rfl (fun _ => ⟨(0), rfl, by show ((-2147483648) : Int) ≤ (0); decide, by show ((0) : Int) ≤ 2147483647; decide⟩)
theorem c0_19 : okC zT0 12 (10, List.replicate 8 (.inl (.int (0)))) := okC_rep rfl rfl (fun _ => ⟨(0), rfl, by show ((-2147483648) : Int) ≤ (0); decide, by show ((0) : Int) ≤ 2147483647; decide⟩)
theorem c0_20 : okC zT0 13 (10, List.replicate 8 (.inl (.int (0)))) := okC_rep rfl rfl (fun _ => ⟨(0), rfl, by show ((-2147483648) : Int) ≤ (0); decide, by show ((0) : Int) ≤ 2147483647; decide⟩)
theorem c0_21 : okC zT0 14 (10, List.replicate 8 (.inl (.int (0)))) := okC_rep rfl rfl (fun _ => ⟨(0), rfl, by show ((-2147483648) : Int) ≤ (0); decide, by show ((0) : Int) ≤ 2147483647; decide⟩)
theorem c0_22 : okC zT0 15 (10, List.replicate 8 (.inl (.int (0)))) := okC_rep rfl rfl (fun _ => ⟨(0), rfl, by show ((-1) : Int) ≤ (0); decide, by show ((0) : Int) ≤ 3; decide⟩)
theorem c0_23 : okC zT0 16 (10, List.replicate 4 (.inl (.int (0)))) := okC_rep rfl rfl (fun _ => ⟨(0), rfl, by show ((-2147483648) : Int) ≤ (0); decide, by show ((0) : Int) ≤ 2147483647; decide⟩)
theorem c0_24 : okC zT0 17 (10, List.replicate 32 (.inl (.int (0)))) := okC_rep rfl rfl (fun _ => ⟨(0), rfl, by show ((-2147483648) : Int) ≤ (0); decide, by show ((0) : Int) ≤ 2147483647; decide⟩)
theorem c0_25 : okC zT0 3 (3, [.inl (.ref 26), .inl (.ref 27), .inl (.ref 28), .inl (.int (0)), .inl (.int (0)), .inl (.int (0)), .inl (.int (0))]) := by
  refine ⟨rfl, rfl, fun i v hv => ?_⟩
  match i, hv with
  | 0, hv =>
    obtain rfl := Option.some.inj hv
    exact ⟨_, rfl, rfl⟩
  | 1, hv =>
    obtain rfl := Option.some.inj hv
    exact ⟨_, rfl, rfl⟩
  | 2, hv =>
    obtain rfl := Option.some.inj hv
    exact ⟨_, rfl, rfl⟩
  | 3, hv =>
    obtain rfl := Option.some.inj hv
    exact ⟨(0), rfl, by show (0 : Int) ≤ (0); decide, by show ((0) : Int) ≤ 8; decide⟩
  | 4, hv =>
    obtain rfl := Option.some.inj hv
    exact ⟨(0), rfl, by show (0 : Int) ≤ (0); decide, by show ((0) : Int) ≤ 255; decide⟩
  | 5, hv =>
    obtain rfl := Option.some.inj hv
    exact ⟨(0), rfl, by show ((-2147483648) : Int) ≤ (0); decide, by show ((0) : Int) ≤ 2147483647; decide⟩
  | 6, hv =>
    obtain rfl := Option.some.inj hv
    exact ⟨(0), rfl, by show ((-2147483648) : Int) ≤ (0); decide, by show ((0) : Int) ≤ 2147483647; decide⟩
  | _ + 7, hv => cases hv
theorem c0_26 : okC zT0 19 (10, List.replicate 256 (.inl (.int (0)))) := okC_rep rfl rfl (fun _ => ⟨(0), rfl, by show ((-2147483648) : Int) ≤ (0); decide, by show ((0) : Int) ≤ 2147483647; decide⟩)
theorem c0_27 : okC zT0 20 (10, List.replicate 488 (.inl (.int (0)))) := okC_rep rfl rfl (fun _ => ⟨(0), rfl, by show ((-2147483648) : Int) ≤ (0); decide, by show ((0) : Int) ≤ 2147483647; decide⟩)
theorem c0_28 : okC zT0 21 (10, List.replicate 256 (.inl (.int (0)))) := okC_rep rfl rfl (fun _ => ⟨(0), rfl, by show ((-2147483648) : Int) ≤ (0); decide, by show ((0) : Int) ≤ 2147483647; decide⟩)
theorem c0_29 : okC zT0 2 (2, [.inl (.ref 30), .inl (.int (0)), .inl (.int (0)), .inl (.int (0)), .inl (.int (0)), .inl (.int (-1))]) := by
  refine ⟨rfl, rfl, fun i v hv => ?_⟩
  match i, hv with
  | 0, hv =>
    obtain rfl := Option.some.inj hv
    exact ⟨_, rfl, rfl⟩
  | 1, hv =>
    obtain rfl := Option.some.inj hv
    exact ⟨(0), rfl, by show (0 : Int) ≤ (0); decide, by show ((0) : Int) ≤ 250; decide⟩
  | 2, hv =>
    obtain rfl := Option.some.inj hv
    exact ⟨(0), rfl, by show (0 : Int) ≤ (0); decide, by show ((0) : Int) ≤ 5; decide⟩
  | 3, hv =>
    obtain rfl := Option.some.inj hv
    exact ⟨(0), rfl, by show (0 : Int) ≤ (0); decide, by show ((0) : Int) ≤ 250; decide⟩
  | 4, hv =>
    obtain rfl := Option.some.inj hv
    exact ⟨(0), rfl, by show (0 : Int) ≤ (0); decide, by show ((0) : Int) ≤ 250; decide⟩
  | 5, hv =>
    obtain rfl := Option.some.inj hv
    exact ⟨(-1), rfl, by show ((-2147483648) : Int) ≤ (-1); decide, by show ((-1) : Int) ≤ 2147483647; decide⟩
  | _ + 6, hv => cases hv
theorem c0_30 : okC zT0 18 (10, List.replicate 250 (.inl (.int (0)))) := okC_rep rfl rfl (fun _ => ⟨(0), rfl, by show (0 : Int) ≤ (0); decide, by show ((0) : Int) ≤ 255; decide⟩)
theorem c0_31 : okC zT0 22 (12, [.inl (.ref 33), .inl (.ref 35), .inl (.ref 37), .inl (.ref 39), .inl (.ref 41), .inl (.ref 43), .inl (.ref 45), .inl (.ref 47)]) := by
  refine ⟨rfl, rfl, fun i v hv => ?_⟩
  match i, hv with
  | 0, hv =>
    obtain rfl := Option.some.inj hv
    exact ⟨_, rfl, rfl⟩
  | 1, hv =>
    obtain rfl := Option.some.inj hv
    exact ⟨_, rfl, rfl⟩
  | 2, hv =>
    obtain rfl := Option.some.inj hv
    exact ⟨_, rfl, rfl⟩
  | 3, hv =>
    obtain rfl := Option.some.inj hv
    exact ⟨_, rfl, rfl⟩
  | 4, hv =>
    obtain rfl := Option.some.inj hv
    exact ⟨_, rfl, rfl⟩
  | 5, hv =>
    obtain rfl := Option.some.inj hv
    exact ⟨_, rfl, rfl⟩
  | 6, hv =>
    obtain rfl := Option.some.inj hv
    exact ⟨_, rfl, rfl⟩
  | 7, hv =>
    obtain rfl := Option.some.inj hv
    exact ⟨_, rfl, rfl⟩
  | _ + 8, hv => cases hv
theorem c0_32 : okC zT0 23 (10, List.replicate 5 (.inl (.int (0)))) := okC_rep rfl rfl (fun _ => ⟨(0), rfl, by show ((-2147483648) : Int) ≤ (0); decide, by show ((0) : Int) ≤ 2147483647; decide⟩)
theorem c0_33 : okC zT0 0 (0, [.inl (.int (-1)), .inl (.int (0)), .inl (.ref 34)]) := by
  refine ⟨rfl, rfl, fun i v hv => ?_⟩
  match i, hv with
  | 0, hv =>
    obtain rfl := Option.some.inj hv
    exact ⟨(-1), rfl, by show ((-1) : Int) ≤ (-1); decide, by show ((-1) : Int) ≤ 17; decide⟩
  | 1, hv =>
    obtain rfl := Option.some.inj hv
    exact ⟨(0), rfl, by show (0 : Int) ≤ (0); decide, by show ((0) : Int) ≤ 40; decide⟩
  | 2, hv =>
    obtain rfl := Option.some.inj hv
    exact ⟨_, rfl, rfl⟩
  | _ + 3, hv => cases hv
theorem c0_34 : okC zT0 10 (11, List.replicate 40 (.inl (.long (0)))) := okC_rep rfl rfl (fun _ => ⟨_, rfl⟩)
theorem c0_35 : okC zT0 0 (0, [.inl (.int (-1)), .inl (.int (0)), .inl (.ref 36)]) := by
  refine ⟨rfl, rfl, fun i v hv => ?_⟩
  match i, hv with
  | 0, hv =>
    obtain rfl := Option.some.inj hv
    exact ⟨(-1), rfl, by show ((-1) : Int) ≤ (-1); decide, by show ((-1) : Int) ≤ 17; decide⟩
  | 1, hv =>
    obtain rfl := Option.some.inj hv
    exact ⟨(0), rfl, by show (0 : Int) ≤ (0); decide, by show ((0) : Int) ≤ 40; decide⟩
  | 2, hv =>
    obtain rfl := Option.some.inj hv
    exact ⟨_, rfl, rfl⟩
  | _ + 3, hv => cases hv
theorem c0_36 : okC zT0 10 (11, List.replicate 40 (.inl (.long (0)))) := okC_rep rfl rfl (fun _ => ⟨_, rfl⟩)
theorem c0_37 : okC zT0 0 (0, [.inl (.int (-1)), .inl (.int (0)), .inl (.ref 38)]) := by
  refine ⟨rfl, rfl, fun i v hv => ?_⟩
  match i, hv with
  | 0, hv =>
    obtain rfl := Option.some.inj hv
    exact ⟨(-1), rfl, by show ((-1) : Int) ≤ (-1); decide, by show ((-1) : Int) ≤ 17; decide⟩
  | 1, hv =>
    obtain rfl := Option.some.inj hv
    exact ⟨(0), rfl, by show (0 : Int) ≤ (0); decide, by show ((0) : Int) ≤ 40; decide⟩
  | 2, hv =>
    obtain rfl := Option.some.inj hv
    exact ⟨_, rfl, rfl⟩
  | _ + 3, hv => cases hv
theorem c0_38 : okC zT0 10 (11, List.replicate 40 (.inl (.long (0)))) := okC_rep rfl rfl (fun _ => ⟨_, rfl⟩)
theorem c0_39 : okC zT0 0 (0, [.inl (.int (-1)), .inl (.int (0)), .inl (.ref 40)]) := by
  refine ⟨rfl, rfl, fun i v hv => ?_⟩
  match i, hv with
  | 0, hv =>
    obtain rfl := Option.some.inj hv
    exact ⟨(-1), rfl, by show ((-1) : Int) ≤ (-1); decide, by show ((-1) : Int) ≤ 17; decide⟩
  | 1, hv =>
    obtain rfl := Option.some.inj hv
    exact ⟨(0), rfl, by show (0 : Int) ≤ (0); decide, by show ((0) : Int) ≤ 40; decide⟩
  | 2, hv =>
    obtain rfl := Option.some.inj hv
    exact ⟨_, rfl, rfl⟩
  | _ + 3, hv => cases hv
theorem c0_40 : okC zT0 10 (11, List.replicate 40 (.inl (.long (0)))) := okC_rep rfl rfl (fun _ => ⟨_, rfl⟩)
theorem c0_41 : okC zT0 0 (0, [.inl (.int (-1)), .inl (.int (0)), .inl (.ref 42)]) := by
  refine ⟨rfl, rfl, fun i v hv => ?_⟩
  match i, hv with
  | 0, hv =>
    obtain rfl := Option.some.inj hv
    exact ⟨(-1), rfl, by show ((-1) : Int) ≤ (-1); decide, by show ((-1) : Int) ≤ 17; decide⟩
  | 1, hv =>
    obtain rfl := Option.some.inj hv
    exact ⟨(0), rfl, by show (0 : Int) ≤ (0); decide, by show ((0) : Int) ≤ 40; decide⟩
  | 2, hv =>
    obtain rfl := Option.some.inj hv
    exact ⟨_, rfl, rfl⟩
  | _ + 3, hv => cases hv
theorem c0_42 : okC zT0 10 (11, List.replicate 40 (.inl (.long (0)))) := okC_rep rfl rfl (fun _ => ⟨_, rfl⟩)
theorem c0_43 : okC zT0 0 (0, [.inl (.int (-1)), .inl (.int (0)), .inl (.ref 44)]) := by
  refine ⟨rfl, rfl, fun i v hv => ?_⟩
  match i, hv with
  | 0, hv =>
    obtain rfl := Option.some.inj hv
    exact ⟨(-1), rfl, by show ((-1) : Int) ≤ (-1); decide, by show ((-1) : Int) ≤ 17; decide⟩
  | 1, hv =>
    obtain rfl := Option.some.inj hv
    exact ⟨(0), rfl, by show (0 : Int) ≤ (0); decide, by show ((0) : Int) ≤ 40; decide⟩
  | 2, hv =>
    obtain rfl := Option.some.inj hv
    exact ⟨_, rfl, rfl⟩
  | _ + 3, hv => cases hv
theorem c0_44 : okC zT0 10 (11, List.replicate 40 (.inl (.long (0)))) := okC_rep rfl rfl (fun _ => ⟨_, rfl⟩)
theorem c0_45 : okC zT0 0 (0, [.inl (.int (-1)), .inl (.int (0)), .inl (.ref 46)]) := by
  refine ⟨rfl, rfl, fun i v hv => ?_⟩
  match i, hv with
  | 0, hv =>
    obtain rfl := Option.some.inj hv
    exact ⟨(-1), rfl, by show ((-1) : Int) ≤ (-1); decide, by show ((-1) : Int) ≤ 17; decide⟩
  | 1, hv =>
    obtain rfl := Option.some.inj hv
    exact ⟨(0), rfl, by show (0 : Int) ≤ (0); decide, by show ((0) : Int) ≤ 40; decide⟩
  | 2, hv =>
    obtain rfl := Option.some.inj hv
    exact ⟨_, rfl, rfl⟩
  | _ + 3, hv => cases hv
theorem c0_46 : okC zT0 10 (11, List.replicate 40 (.inl (.long (0)))) := okC_rep rfl rfl (fun _ => ⟨_, rfl⟩)
theorem c0_47 : okC zT0 0 (0, [.inl (.int (-1)), .inl (.int (0)), .inl (.ref 48)]) := by
  refine ⟨rfl, rfl, fun i v hv => ?_⟩
  match i, hv with
  | 0, hv =>
    obtain rfl := Option.some.inj hv
    exact ⟨(-1), rfl, by show ((-1) : Int) ≤ (-1); decide, by show ((-1) : Int) ≤ 17; decide⟩
  | 1, hv =>
    obtain rfl := Option.some.inj hv
    exact ⟨(0), rfl, by show (0 : Int) ≤ (0); decide, by show ((0) : Int) ≤ 40; decide⟩
  | 2, hv =>
    obtain rfl := Option.some.inj hv
    exact ⟨_, rfl, rfl⟩
  | _ + 3, hv => cases hv
theorem c0_48 : okC zT0 10 (11, List.replicate 40 (.inl (.long (0)))) := okC_rep rfl rfl (fun _ => ⟨_, rfl⟩)
theorem c0_49 : okC zT0 5 (5, [.inl (.ref 50), .inl (.ref 51), .inl (.ref 52), .inl (.ref 53), .inl (.ref 62), .inl (.ref 63), .inl (.ref 64), .inl (.int (0)), .inl (.ref 65), .inl (.int (20)), .inl (.int (5)), .inl (.int (10)), .inl (.int (40)), .inl (.int (0)), .inl (.int (0)), .inl (.int (1)), .inl (.ref 66), .inl (.int (0)), .inl (.ref 67), .inl (.ref 68), .inl (.ref 69), .inl (.ref 70), .inl (.ref 71), .inl (.int (0)), .inl (.ref 72), .inl (.ref 73), .inl .null, .inl .null, .inl (.int (0)), .inl (.int (0)), .inl (.int (0)), .inl (.int (0)), .inl (.int (0)), .inl (.ref 78), .inl (.int (0)), .inl .null, .inl (.int (0)), .inl (.int (0)), .inl (.int (0)), .inl (.int (0)), .inl (.int (0))]) := by
  refine ⟨rfl, rfl, fun i v hv => ?_⟩
  match i, hv with
  | 0, hv =>
    obtain rfl := Option.some.inj hv
    exact ⟨_, rfl, rfl⟩
  | 1, hv =>
    obtain rfl := Option.some.inj hv
    exact ⟨_, rfl, rfl⟩
  | 2, hv =>
    obtain rfl := Option.some.inj hv
    exact ⟨_, rfl, rfl⟩
  | 3, hv =>
    obtain rfl := Option.some.inj hv
    exact ⟨_, rfl, rfl⟩
  | 4, hv =>
    obtain rfl := Option.some.inj hv
    exact ⟨_, rfl, rfl⟩
  | 5, hv =>
    obtain rfl := Option.some.inj hv
    exact ⟨_, rfl, rfl⟩
  | 6, hv =>
    obtain rfl := Option.some.inj hv
    exact ⟨_, rfl, rfl⟩
  | 7, hv =>
    obtain rfl := Option.some.inj hv
    exact ⟨(0), rfl, by show (0 : Int) ≤ (0); decide, by show ((0) : Int) ≤ 250; decide⟩
  | 8, hv =>
    obtain rfl := Option.some.inj hv
    exact ⟨_, rfl, rfl⟩
  | 9, hv =>
    obtain rfl := Option.some.inj hv
    exact ⟨(20), rfl, by show (1 : Int) ≤ (20); decide, by show ((20) : Int) ≤ 60; decide⟩
  | 10, hv =>
    obtain rfl := Option.some.inj hv
    exact ⟨(5), rfl, by show (2 : Int) ≤ (5); decide, by show ((5) : Int) ≤ 10; decide⟩
  | 11, hv =>
    obtain rfl := Option.some.inj hv
    exact ⟨(10), rfl, by show (1 : Int) ≤ (10); decide, by show ((10) : Int) ≤ 495; decide⟩
  | 12, hv =>
    obtain rfl := Option.some.inj hv
    exact ⟨(40), rfl, by show (1 : Int) ≤ (40); decide, by show ((40) : Int) ≤ 495; decide⟩
  | 13, hv =>
    obtain rfl := Option.some.inj hv
    exact ⟨(0), rfl, by show ((-2147483648) : Int) ≤ (0); decide, by show ((0) : Int) ≤ 2147483647; decide⟩
  | 14, hv =>
    obtain rfl := Option.some.inj hv
    exact ⟨(0), rfl, by show ((-2147483648) : Int) ≤ (0); decide, by show ((0) : Int) ≤ 2147483647; decide⟩
  | 15, hv =>
    obtain rfl := Option.some.inj hv
    exact ⟨(1), rfl, by show ((-2147483648) : Int) ≤ (1); decide, by show ((1) : Int) ≤ 2147483647; decide⟩
  | 16, hv =>
    obtain rfl := Option.some.inj hv
    exact ⟨_, rfl, rfl⟩
  | 17, hv =>
    obtain rfl := Option.some.inj hv
    exact ⟨(0), rfl, by show (0 : Int) ≤ (0); decide, by show ((0) : Int) ≤ 8; decide⟩
  | 18, hv =>
    obtain rfl := Option.some.inj hv
    exact ⟨_, rfl, rfl⟩
  | 19, hv =>
    obtain rfl := Option.some.inj hv
    exact ⟨_, rfl, rfl⟩
  | 20, hv =>
    obtain rfl := Option.some.inj hv
    exact ⟨_, rfl, rfl⟩
  | 21, hv =>
    obtain rfl := Option.some.inj hv
    exact ⟨_, rfl, rfl⟩
  | 22, hv =>
    obtain rfl := Option.some.inj hv
    exact ⟨_, rfl, rfl⟩
  | 23, hv =>
    obtain rfl := Option.some.inj hv
    exact ⟨(0), rfl, by show (0 : Int) ≤ (0); decide, by show ((0) : Int) ≤ 4; decide⟩
  | 24, hv =>
    obtain rfl := Option.some.inj hv
    exact ⟨_, rfl, rfl⟩
  | 25, hv =>
    obtain rfl := Option.some.inj hv
    exact ⟨_, rfl, rfl⟩
  | 26, hv =>
    obtain rfl := Option.some.inj hv
    exact trivial
  | 27, hv =>
    obtain rfl := Option.some.inj hv
    exact trivial
  | 28, hv =>
    obtain rfl := Option.some.inj hv
    exact ⟨(0), rfl, by show (0 : Int) ≤ (0); decide, by show ((0) : Int) ≤ 250; decide⟩
  | 29, hv =>
    obtain rfl := Option.some.inj hv
    exact ⟨(0), rfl, by show (0 : Int) ≤ (0); decide, by show ((0) : Int) ≤ 4; decide⟩
  | 30, hv =>
    obtain rfl := Option.some.inj hv
    exact ⟨(0), rfl, by show (0 : Int) ≤ (0); decide, by show ((0) : Int) ≤ 250; decide⟩
  | 31, hv =>
    obtain rfl := Option.some.inj hv
    exact ⟨(0), rfl, by show ((-2147483648) : Int) ≤ (0); decide, by show ((0) : Int) ≤ 2147483647; decide⟩
  | 32, hv =>
    obtain rfl := Option.some.inj hv
    exact ⟨(0), rfl, by show ((-2147483648) : Int) ≤ (0); decide, by show ((0) : Int) ≤ 2147483647; decide⟩
  | 33, hv =>
    obtain rfl := Option.some.inj hv
    exact ⟨_, rfl, rfl⟩
  | 34, hv =>
    obtain rfl := Option.some.inj hv
    exact ⟨(0), rfl, by show ((-2147483648) : Int) ≤ (0); decide, by show ((0) : Int) ≤ 2147483647; decide⟩
  | 35, hv =>
    obtain rfl := Option.some.inj hv
    exact trivial
  | 36, hv =>
    obtain rfl := Option.some.inj hv
    exact ⟨(0), rfl, by show (0 : Int) ≤ (0); decide, by show ((0) : Int) ≤ 3; decide⟩
  | 37, hv =>
    obtain rfl := Option.some.inj hv
    exact ⟨(0), rfl, by show ((-2147483648) : Int) ≤ (0); decide, by show ((0) : Int) ≤ 2147483647; decide⟩
  | 38, hv =>
    obtain rfl := Option.some.inj hv
    exact ⟨(0), rfl, by show (0 : Int) ≤ (0); decide, by show ((0) : Int) ≤ 60; decide⟩
  | 39, hv =>
    obtain rfl := Option.some.inj hv
    exact ⟨(0), rfl, by show (0 : Int) ≤ (0); decide, by show ((0) : Int) ≤ 61; decide⟩
  | 40, hv =>
    obtain rfl := Option.some.inj hv
    exact ⟨(0), rfl, by show ((-2147483648) : Int) ≤ (0); decide, by show ((0) : Int) ≤ 2147483647; decide⟩
  | _ + 41, hv => cases hv
theorem c0_50 : okC zT0 24 (10, List.replicate 8 (.inl (.int (0)))) := okC_rep rfl rfl (fun _ => ⟨(0), rfl, by show (0 : Int) ≤ (0); decide, by show ((0) : Int) ≤ 2; decide⟩)
theorem c0_51 : okC zT0 25 (10, List.replicate 8 (.inl (.int (0)))) := okC_rep rfl rfl (fun _ => ⟨(0), rfl, by show (0 : Int) ≤ (0); decide, by show ((0) : Int) ≤ 4; decide⟩)
theorem c0_52 : okC zT0 26 (10, List.replicate 8 (.inl (.int (0)))) := okC_rep rfl rfl (fun _ => ⟨(0), rfl, by show (0 : Int) ≤ (0); decide, by show ((0) : Int) ≤ 40; decide⟩)
theorem c0_53 : okC zT0 27 (13, [.inl (.ref 54), .inl (.ref 55), .inl (.ref 56), .inl (.ref 57), .inl (.ref 58), .inl (.ref 59), .inl (.ref 60), .inl (.ref 61)]) := by
  refine ⟨rfl, rfl, fun i v hv => ?_⟩
  match i, hv with
  | 0, hv =>
    obtain rfl := Option.some.inj hv
    exact ⟨_, rfl, rfl⟩
  | 1, hv =>
    obtain rfl := Option.some.inj hv
    exact ⟨_, rfl, rfl⟩
  | 2, hv =>
    obtain rfl := Option.some.inj hv
    exact ⟨_, rfl, rfl⟩
  | 3, hv =>
    obtain rfl := Option.some.inj hv
    exact ⟨_, rfl, rfl⟩
  | 4, hv =>
    obtain rfl := Option.some.inj hv
    exact ⟨_, rfl, rfl⟩
  | 5, hv =>
    obtain rfl := Option.some.inj hv
    exact ⟨_, rfl, rfl⟩
  | 6, hv =>
    obtain rfl := Option.some.inj hv
    exact ⟨_, rfl, rfl⟩
  | 7, hv =>
    obtain rfl := Option.some.inj hv
    exact ⟨_, rfl, rfl⟩
  | _ + 8, hv => cases hv
theorem c0_54 : okC zT0 28 (11, List.replicate 40 (.inl (.long (0)))) := okC_rep rfl rfl (fun _ => ⟨_, rfl⟩)
theorem c0_55 : okC zT0 28 (11, List.replicate 40 (.inl (.long (0)))) := okC_rep rfl rfl (fun _ => ⟨_, rfl⟩)
theorem c0_56 : okC zT0 28 (11, List.replicate 40 (.inl (.long (0)))) := okC_rep rfl rfl (fun _ => ⟨_, rfl⟩)
theorem c0_57 : okC zT0 28 (11, List.replicate 40 (.inl (.long (0)))) := okC_rep rfl rfl (fun _ => ⟨_, rfl⟩)
theorem c0_58 : okC zT0 28 (11, List.replicate 40 (.inl (.long (0)))) := okC_rep rfl rfl (fun _ => ⟨_, rfl⟩)
theorem c0_59 : okC zT0 28 (11, List.replicate 40 (.inl (.long (0)))) := okC_rep rfl rfl (fun _ => ⟨_, rfl⟩)
theorem c0_60 : okC zT0 28 (11, List.replicate 40 (.inl (.long (0)))) := okC_rep rfl rfl (fun _ => ⟨_, rfl⟩)
theorem c0_61 : okC zT0 28 (11, List.replicate 40 (.inl (.long (0)))) := okC_rep rfl rfl (fun _ => ⟨_, rfl⟩)
theorem c0_62 : okC zT0 28 (11, List.replicate 40 (.inl (.long (0)))) := okC_rep rfl rfl (fun _ => ⟨_, rfl⟩)
theorem c0_63 : okC zT0 29 (10, List.replicate 8 (.inl (.int (0)))) := okC_rep rfl rfl (fun _ => ⟨(0), rfl, by show ((-1) : Int) ≤ (0); decide, by show ((0) : Int) ≤ 7; decide⟩)
theorem c0_64 : okC zT0 18 (10, List.replicate 250 (.inl (.int (0)))) := okC_rep rfl rfl (fun _ => ⟨(0), rfl, by show (0 : Int) ≤ (0); decide, by show ((0) : Int) ≤ 255; decide⟩)
theorem c0_65 : okC zT0 30 (10, List.replicate 8 (.inl (.int (0)))) := okC_rep rfl rfl (fun _ => ⟨(0), rfl, by show ((-2147483648) : Int) ≤ (0); decide, by show ((0) : Int) ≤ 2147483647; decide⟩)
theorem c0_66 : okC zT0 31 (10, List.replicate 61 (.inl (.int (0)))) := okC_rep rfl rfl (fun _ => ⟨(0), rfl, by show (0 : Int) ≤ (0); decide, by show ((0) : Int) ≤ 1; decide⟩)
theorem c0_67 : okC zT0 32 (10, List.replicate 8 (.inl (.int (0)))) := okC_rep rfl rfl (fun _ => ⟨(0), rfl, by show (0 : Int) ≤ (0); decide, by show ((0) : Int) ≤ 5; decide⟩)
theorem c0_68 : okC zT0 33 (10, List.replicate 8 (.inl (.int (0)))) := okC_rep rfl rfl (fun _ => ⟨(0), rfl, by show (0 : Int) ≤ (0); decide, by show ((0) : Int) ≤ 60; decide⟩)
theorem c0_69 : okC zT0 34 (10, List.replicate 8 (.inl (.int (0)))) := okC_rep rfl rfl (fun _ => ⟨(0), rfl, by show (0 : Int) ≤ (0); decide, by show ((0) : Int) ≤ 9; decide⟩)
theorem c0_70 : okC zT0 35 (10, List.replicate 8 (.inl (.int (0)))) := okC_rep rfl rfl (fun _ => ⟨(0), rfl, by show ((-2147483648) : Int) ≤ (0); decide, by show ((0) : Int) ≤ 2147483647; decide⟩)
theorem c0_71 : okC zT0 36 (10, List.replicate 8 (.inl (.int (0)))) := okC_rep rfl rfl (fun _ => ⟨(0), rfl, by show ((-1) : Int) ≤ (0); decide, by show ((0) : Int) ≤ 3; decide⟩)
theorem c0_72 : okC zT0 37 (10, List.replicate 4 (.inl (.int (0)))) := okC_rep rfl rfl (fun _ => ⟨(0), rfl, by show ((-2147483648) : Int) ≤ (0); decide, by show ((0) : Int) ≤ 2147483647; decide⟩)
theorem c0_73 : okC zT0 38 (14, [.inl (.ref 74), .inl (.ref 75), .inl (.ref 76), .inl (.ref 77)]) := by
  refine ⟨rfl, rfl, fun i v hv => ?_⟩
  match i, hv with
  | 0, hv =>
    obtain rfl := Option.some.inj hv
    exact ⟨_, rfl, rfl⟩
  | 1, hv =>
    obtain rfl := Option.some.inj hv
    exact ⟨_, rfl, rfl⟩
  | 2, hv =>
    obtain rfl := Option.some.inj hv
    exact ⟨_, rfl, rfl⟩
  | 3, hv =>
    obtain rfl := Option.some.inj hv
    exact ⟨_, rfl, rfl⟩
  | _ + 4, hv => cases hv
theorem c0_74 : okC zT0 39 (10, List.replicate 8 (.inl (.int (0)))) := okC_rep rfl rfl (fun _ => ⟨(0), rfl, by show ((-2147483648) : Int) ≤ (0); decide, by show ((0) : Int) ≤ 2147483647; decide⟩)
theorem c0_75 : okC zT0 39 (10, List.replicate 8 (.inl (.int (0)))) := okC_rep rfl rfl (fun _ => ⟨(0), rfl, by show ((-2147483648) : Int) ≤ (0); decide, by show ((0) : Int) ≤ 2147483647; decide⟩)
theorem c0_76 : okC zT0 39 (10, List.replicate 8 (.inl (.int (0)))) := okC_rep rfl rfl (fun _ => ⟨(0), rfl, by show ((-2147483648) : Int) ≤ (0); decide, by show ((0) : Int) ≤ 2147483647; decide⟩)
theorem c0_77 : okC zT0 39 (10, List.replicate 8 (.inl (.int (0)))) := okC_rep rfl rfl (fun _ => ⟨(0), rfl, by show ((-2147483648) : Int) ≤ (0); decide, by show ((0) : Int) ≤ 2147483647; decide⟩)
theorem c0_78 : okC zT0 40 (10, [.inl (.int (0)), .inl (.int (0)), .inl (.int (0))]) := by
  refine ⟨rfl, rfl, fun i v hv => ?_⟩
  match i, hv with
  | 0, hv =>
    obtain rfl := Option.some.inj hv
    exact ⟨(0), rfl, by show ((-2147483648) : Int) ≤ (0); decide, by show ((0) : Int) ≤ 2147483647; decide⟩
  | 1, hv =>
    obtain rfl := Option.some.inj hv
    exact ⟨(0), rfl, by show ((-2147483648) : Int) ≤ (0); decide, by show ((0) : Int) ≤ 2147483647; decide⟩
  | 2, hv =>
    obtain rfl := Option.some.inj hv
    exact ⟨(0), rfl, by show ((-2147483648) : Int) ≤ (0); decide, by show ((0) : Int) ≤ 2147483647; decide⟩
  | _ + 3, hv => cases hv
theorem okCs0 : okCs zT0 zT0 zh0 := And.intro c0_0 (And.intro c0_1 (And.intro c0_2 (And.intro c0_3 (And.intro c0_4 (And.intro c0_5 (And.intro c0_6 (And.intro c0_7 (And.intro c0_8 (And.intro c0_9 (And.intro c0_10 (And.intro c0_11 (And.intro c0_12 (And.intro c0_13 (And.intro c0_14 (And.intro c0_15 (And.intro c0_16 (And.intro c0_17 (And.intro c0_18 (And.intro c0_19 (And.intro c0_20 (And.intro c0_21 (And.intro c0_22 (And.intro c0_23 (And.intro c0_24 (And.intro c0_25 (And.intro c0_26 (And.intro c0_27 (And.intro c0_28 (And.intro c0_29 (And.intro c0_30 (And.intro c0_31 (And.intro c0_32 (And.intro c0_33 (And.intro c0_34 (And.intro c0_35 (And.intro c0_36 (And.intro c0_37 (And.intro c0_38 (And.intro c0_39 (And.intro c0_40 (And.intro c0_41 (And.intro c0_42 (And.intro c0_43 (And.intro c0_44 (And.intro c0_45 (And.intro c0_46 (And.intro c0_47 (And.intro c0_48 (And.intro c0_49 (And.intro c0_50 (And.intro c0_51 (And.intro c0_52 (And.intro c0_53 (And.intro c0_54 (And.intro c0_55 (And.intro c0_56 (And.intro c0_57 (And.intro c0_58 (And.intro c0_59 (And.intro c0_60 (And.intro c0_61 (And.intro c0_62 (And.intro c0_63 (And.intro c0_64 (And.intro c0_65 (And.intro c0_66 (And.intro c0_67 (And.intro c0_68 (And.intro c0_69 (And.intro c0_70 (And.intro c0_71 (And.intro c0_72 (And.intro c0_73 (And.intro c0_74 (And.intro c0_75 (And.intro c0_76 (And.intro c0_77 (And.intro c0_78 (trivial)))))))))))))))))))))))))))))))))))))))))))))))))))))))))))))))))))))))))))))))
theorem zh0_ok : hOK zty zT0 zh0 := by
  have h := hOK_app2 (T := []) (ts := zT0) (h := []) (cs := zh0) ⟨rfl, by decide, fun q τ hq => by cases hq⟩ (by decide) okCs0
  exact h
theorem zh0_lay : pLay zT0 zh0 49 := by
  refine ⟨?_, ?_, ?_⟩
  · simp only [pOff, List.forall_mem_cons]
    exact ⟨⟨rfl, rfl⟩, ⟨rfl, rfl⟩, ⟨rfl, rfl⟩, ⟨rfl, rfl⟩, ⟨rfl, rfl⟩, ⟨rfl, rfl⟩, ⟨rfl, rfl⟩, ⟨rfl, rfl⟩, ⟨rfl, rfl⟩, ⟨rfl, rfl⟩, ⟨rfl, rfl⟩, ⟨rfl, rfl⟩, ⟨rfl, rfl⟩, ⟨rfl, rfl⟩, ⟨rfl, rfl⟩, ⟨rfl, rfl⟩, ⟨rfl, rfl⟩, fun _ h => absurd h List.not_mem_nil⟩
  · intro i hi
    match i, hi with
    | 0, _ => exact ⟨rfl, rfl⟩
    | 1, _ => exact ⟨rfl, rfl⟩
    | 2, _ => exact ⟨rfl, rfl⟩
    | 3, _ => exact ⟨rfl, rfl⟩
    | 4, _ => exact ⟨rfl, rfl⟩
    | 5, _ => exact ⟨rfl, rfl⟩
    | 6, _ => exact ⟨rfl, rfl⟩
    | 7, _ => exact ⟨rfl, rfl⟩
    | _ + 8, h => exact absurd h (by omega)
  · intro i hi
    match i, hi with
    | 0, _ => exact ⟨rfl, rfl⟩
    | 1, _ => exact ⟨rfl, rfl⟩
    | 2, _ => exact ⟨rfl, rfl⟩
    | 3, _ => exact ⟨rfl, rfl⟩
    | _ + 4, h => exact absurd h (by omega)
theorem zh0_phi : zPhi (0, 0, none, false) zT0 zh0 := by
  have o : ∀ q τ : Nat, zT0[q]? = some τ → (τ = 4 → q = 0) ∧ (τ = 2 → q = 29) ∧ (τ = 5 → q = 49) ∧ τ ≠ 6 := by
    intro q τ hq
    have hl := (List.getElem?_eq_some_iff.mp hq).1
    have key : ∀ q, q < 79 → (zT0[q]? = some 4 → q = 0) ∧ (zT0[q]? = some 2 → q = 29) ∧ (zT0[q]? = some 5 → q = 49) ∧ zT0[q]? ≠ some 6 := by decide
    have k := key q hl
    exact ⟨fun e => k.1 (by rw [hq, e]), fun e => k.2.1 (by rw [hq, e]), fun e => k.2.2.1 (by rw [hq, e]), fun e => k.2.2.2 (by rw [hq, e])⟩
  refine ⟨⟨rfl, rfl, rfl, fun q hq => (o q 4 hq).1 rfl, fun q hq => (o q 2 hq).2.1 rfl, fun q hq => (o q 5 hq).2.2.1 rfl⟩, fun q τ hq hτ => ?_, rfl, rfl, fun s hs h2 => ?_, (fun μ hμ => by cases hμ), (fun h => by cases h), Or.inl rfl, Or.inl rfl, Or.inl rfl⟩
  · rcases hτ with rfl | rfl
    · have := (o q 5 hq).2.2.1 rfl
      subst this
      refine ⟨zh0_lay, fun t ht => ?_⟩
      exfalso
      have h17 : hi zh0 49 17 = 0 := rfl
      omega
    · exact absurd rfl (o q 6 hq).2.2.2
  · match s, hs with
    | 0, _ => exact Int.le_refl 0
    | 1, _ => exact Int.le_refl 0
    | 2, _ => exact Int.le_refl 0
    | 3, _ => exact Int.le_refl 0
    | 4, _ => exact Int.le_refl 0
    | 5, _ => exact Int.le_refl 0
    | 6, _ => exact Int.le_refl 0
    | 7, _ => exact Int.le_refl 0
    | _ + 8, h => exact absurd h (by omega)
