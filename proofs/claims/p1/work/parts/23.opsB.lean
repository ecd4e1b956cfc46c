theorem zo_2_0 : zallT [[(-2147483648, -1), (0, 0), (1, 1), (2, 2), (3, 3), (4, 4), (5, 5), (6, 6), (7, 7), (8, 2147483647)]] (fun t => zop1 372 (zscr (zmk (-2147483648) (-1) :: t))) = true := by decide +kernel
theorem zo_2_1 : zallT [[(-2147483648, -1), (0, 0), (1, 1), (2, 2), (3, 3), (4, 4), (5, 5), (6, 6), (7, 7), (8, 2147483647)]] (fun t => zop1 372 (zscr (zmk (0) (0) :: t))) = true := by decide +kernel
theorem zo_2_2 : zallT [[(-2147483648, -1), (0, 0), (1, 1), (2, 2), (3, 3), (4, 4), (5, 5), (6, 6), (7, 7), (8, 2147483647)]] (fun t => zop1 372 (zscr (zmk (1) (1) :: t))) = true := by decide +kernel
theorem zo_2_3 : zallT [[(-2147483648, -1), (0, 0), (1, 1), (2, 2), (3, 3), (4, 4), (5, 5), (6, 6), (7, 7), (8, 2147483647)]] (fun t => zop1 372 (zscr (zmk (2) (2) :: t))) = true := by decide +kernel
theorem zo_2_4 : zallT [[(-2147483648, -1), (0, 0), (1, 1), (2, 2), (3, 3), (4, 4), (5, 5), (6, 6), (7, 7), (8, 2147483647)]] (fun t => zop1 372 (zscr (zmk (3) (3) :: t))) = true := by decide +kernel
theorem zo_2_5 : zallT [[(-2147483648, -1), (0, 0), (1, 1), (2, 2), (3, 3), (4, 4), (5, 5), (6, 6), (7, 7), (8, 2147483647)]] (fun t => zop1 372 (zscr (zmk (4) (4) :: t))) = true := by decide +kernel
theorem zo_2_6 : zallT [[(-2147483648, -1), (0, 0), (1, 1), (2, 2), (3, 3), (4, 4), (5, 5), (6, 6), (7, 7), (8, 2147483647)]] (fun t => zop1 372 (zscr (zmk (5) (5) :: t))) = true := by decide +kernel
theorem zo_2_7 : zallT [[(-2147483648, -1), (0, 0), (1, 1), (2, 2), (3, 3), (4, 4), (5, 5), (6, 6), (7, 7), (8, 2147483647)]] (fun t => zop1 372 (zscr (zmk (6) (6) :: t))) = true := by decide +kernel
theorem zo_2_8 : zallT [[(-2147483648, -1), (0, 0), (1, 1), (2, 2), (3, 3), (4, 4), (5, 5), (6, 6), (7, 7), (8, 2147483647)]] (fun t => zop1 372 (zscr (zmk (7) (7) :: t))) = true := by decide +kernel
theorem zo_2_9 : zallT [[(-2147483648, -1), (0, 0), (1, 1), (2, 2), (3, 3), (4, 4), (5, 5), (6, 6), (7, 7), (8, 2147483647)]] (fun t => zop1 372 (zscr (zmk (8) (2147483647) :: t))) = true := by decide +kernel
theorem zo_2 : zallT zP_2 (fun t => zop1 372 (zscr t)) = true := List.all_eq_true.mpr (List.forall_mem_cons.mpr ⟨zo_2_0, List.forall_mem_cons.mpr ⟨zo_2_1, List.forall_mem_cons.mpr ⟨zo_2_2, List.forall_mem_cons.mpr ⟨zo_2_3, List.forall_mem_cons.mpr ⟨zo_2_4, List.forall_mem_cons.mpr ⟨zo_2_5, List.forall_mem_cons.mpr ⟨zo_2_6, List.forall_mem_cons.mpr ⟨zo_2_7, List.forall_mem_cons.mpr ⟨zo_2_8, List.forall_mem_cons.mpr ⟨zo_2_9, fun _ h => absurd h List.not_mem_nil⟩⟩⟩⟩⟩⟩⟩⟩⟩⟩)
theorem zo_11 : zallT zP_11 (fun t => zop1 680 (zscr t)) = true := by decide +kernel
theorem zo_12 : zallT zP_12 (fun t => zop1 703 (zscr t)) = true := by decide +kernel
theorem zo_13 : zallT zP_13 (fun t => zop1 746 (zscr t)) = true := by decide +kernel
theorem zo_14 : zallT zP_14 (fun t => zop1 779 (zscr t)) = true := by decide +kernel
theorem zo_15 : zallT zP_15 (fun t => zop1 802 (zscr t)) = true := by decide +kernel
theorem zo_17 : zallT zP_17 (fun t => zop1 828 (zscr t)) = true := by decide +kernel
theorem zo_18 : zallT zP_18 (fun t => zop1 861 (zscr t)) = true := by decide +kernel
