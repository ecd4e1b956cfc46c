theorem zo_35_0 : zallT [[(-2147483648, -1), (0, 40), (41, 2147483647)]] (fun t => zop1 1282 (zscr (zmk (-2147483648) (-1) :: t))) = true := by decide +kernel
theorem zo_35_1 : zallT [[(-2147483648, -1), (0, 40), (41, 2147483647)]] (fun t => zop1 1282 (zscr (zmk (0) (0) :: t))) = true := by decide +kernel
theorem zo_35_2 : zallT [[(-2147483648, -1), (0, 40), (41, 2147483647)]] (fun t => zop1 1282 (zscr (zmk (1) (1) :: t))) = true := by decide +kernel
theorem zo_35_3 : zallT [[(-2147483648, -1), (0, 40), (41, 2147483647)]] (fun t => zop1 1282 (zscr (zmk (2) (2) :: t))) = true := by decide +kernel
theorem zo_35_4 : zallT [[(-2147483648, -1), (0, 40), (41, 2147483647)]] (fun t => zop1 1282 (zscr (zmk (3) (3) :: t))) = true := by decide +kernel
theorem zo_35_5 : zallT [[(-2147483648, -1), (0, 40), (41, 2147483647)]] (fun t => zop1 1282 (zscr (zmk (4) (4) :: t))) = true := by decide +kernel
theorem zo_35_6 : zallT [[(-2147483648, -1), (0, 40), (41, 2147483647)]] (fun t => zop1 1282 (zscr (zmk (5) (5) :: t))) = true := by decide +kernel
theorem zo_35_7 : zallT [[(-2147483648, -1), (0, 40), (41, 2147483647)]] (fun t => zop1 1282 (zscr (zmk (6) (6) :: t))) = true := by decide +kernel
theorem zo_35_8 : zallT [[(-2147483648, -1), (0, 40), (41, 2147483647)]] (fun t => zop1 1282 (zscr (zmk (7) (7) :: t))) = true := by decide +kernel
theorem zo_35_9 : zallT [[(-2147483648, -1), (0, 40), (41, 2147483647)]] (fun t => zop1 1282 (zscr (zmk (8) (2147483647) :: t))) = true := by decide +kernel
theorem zo_35 : zallT zP_35 (fun t => zop1 1282 (zscr t)) = true := List.all_eq_true.mpr (List.forall_mem_cons.mpr ⟨zo_35_0, List.forall_mem_cons.mpr ⟨zo_35_1, List.forall_mem_cons.mpr ⟨zo_35_2, List.forall_mem_cons.mpr ⟨zo_35_3, List.forall_mem_cons.mpr ⟨zo_35_4, List.forall_mem_cons.mpr ⟨zo_35_5, List.forall_mem_cons.mpr ⟨zo_35_6, List.forall_mem_cons.mpr ⟨zo_35_7, List.forall_mem_cons.mpr ⟨zo_35_8, List.forall_mem_cons.mpr ⟨zo_35_9, fun _ h => absurd h List.not_mem_nil⟩⟩⟩⟩⟩⟩⟩⟩⟩⟩)
theorem zo_36_0 : zallT [[(-2147483648, -1), (0, 40), (41, 2147483647)]] (fun t => zop1 1315 (zscr (zmk (-2147483648) (-1) :: t))) = true := by decide +kernel
theorem zo_36_1 : zallT [[(-2147483648, -1), (0, 40), (41, 2147483647)]] (fun t => zop1 1315 (zscr (zmk (0) (0) :: t))) = true := by decide +kernel
theorem zo_36_2 : zallT [[(-2147483648, -1), (0, 40), (41, 2147483647)]] (fun t => zop1 1315 (zscr (zmk (1) (1) :: t))) = true := by decide +kernel
theorem zo_36_3 : zallT [[(-2147483648, -1), (0, 40), (41, 2147483647)]] (fun t => zop1 1315 (zscr (zmk (2) (2) :: t))) = true := by decide +kernel
theorem zo_36_4 : zallT [[(-2147483648, -1), (0, 40), (41, 2147483647)]] (fun t => zop1 1315 (zscr (zmk (3) (3) :: t))) = true := by decide +kernel
theorem zo_36_5 : zallT [[(-2147483648, -1), (0, 40), (41, 2147483647)]] (fun t => zop1 1315 (zscr (zmk (4) (4) :: t))) = true := by decide +kernel
theorem zo_36_6 : zallT [[(-2147483648, -1), (0, 40), (41, 2147483647)]] (fun t => zop1 1315 (zscr (zmk (5) (5) :: t))) = true := by decide +kernel
theorem zo_36_7 : zallT [[(-2147483648, -1), (0, 40), (41, 2147483647)]] (fun t => zop1 1315 (zscr (zmk (6) (6) :: t))) = true := by decide +kernel
theorem zo_36_8 : zallT [[(-2147483648, -1), (0, 40), (41, 2147483647)]] (fun t => zop1 1315 (zscr (zmk (7) (7) :: t))) = true := by decide +kernel
theorem zo_36_9 : zallT [[(-2147483648, -1), (0, 40), (41, 2147483647)]] (fun t => zop1 1315 (zscr (zmk (8) (2147483647) :: t))) = true := by decide +kernel
theorem zo_36 : zallT zP_36 (fun t => zop1 1315 (zscr t)) = true := List.all_eq_true.mpr (List.forall_mem_cons.mpr ⟨zo_36_0, List.forall_mem_cons.mpr ⟨zo_36_1, List.forall_mem_cons.mpr ⟨zo_36_2, List.forall_mem_cons.mpr ⟨zo_36_3, List.forall_mem_cons.mpr ⟨zo_36_4, List.forall_mem_cons.mpr ⟨zo_36_5, List.forall_mem_cons.mpr ⟨zo_36_6, List.forall_mem_cons.mpr ⟨zo_36_7, List.forall_mem_cons.mpr ⟨zo_36_8, List.forall_mem_cons.mpr ⟨zo_36_9, fun _ h => absurd h List.not_mem_nil⟩⟩⟩⟩⟩⟩⟩⟩⟩⟩)
theorem zo_37 : zallT zP_37 (fun t => zop1 1348 (zscr t)) = true := by decide +kernel
theorem zo_38 : zallT zP_38 (fun t => zop1 1391 (zscr t)) = true := by decide +kernel
theorem zo_39 : zallT zP_39 (fun t => zop1 1414 (zscr t)) = true := by decide +kernel
theorem zo_40 : zallT zP_40 (fun t => zop1 1437 (zscr t)) = true := by decide +kernel
theorem zo_41 : zallT zP_41 (fun t => zop1 1460 (zscr t)) = true := by decide +kernel
theorem zo_42 : zallT zP_42 (fun t => zop1 1473 (zscr t)) = true := by decide +kernel
theorem zo_43 : zallT zP_43 (fun t => zop1 1486 (zscr t)) = true := by decide +kernel
theorem zo_44 : zallT zP_44 (fun t => zop1 1499 (zscr t)) = true := by decide +kernel
theorem zo_45 : zallT zP_45 (fun t => zop1 1522 (zscr t)) = true := by decide +kernel
theorem zo_46 : zallT zP_46 (fun t => zop1 1545 (zscr t)) = true := by decide +kernel
theorem zo_47 : zallT zP_47 (fun t => zop1 1568 (zscr t)) = true := by decide +kernel
theorem zo_48 : zallT zP_48 (fun t => zop1 1591 (zscr t)) = true := by decide +kernel
theorem zo_49 : zallT zP_49 (fun t => zop1 1614 (zscr t)) = true := by decide +kernel
theorem zo_50 : zallT zP_50 (fun t => zop1 1627 (zscr t)) = true := by decide +kernel
theorem zo_51 : zallT zP_51 (fun t => zop1 1640 (zscr t)) = true := by decide +kernel
theorem zo_52 : zallT zP_52 (fun t => zop1 1663 (zscr t)) = true := by decide +kernel
