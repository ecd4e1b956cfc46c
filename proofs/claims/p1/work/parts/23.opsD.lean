theorem zo_16 : zallT zP_16 (fun t => zop1 815 (zscr t)) = true := by decide +kernel
theorem zo_19_0 : zallT [[(-2147483648, -1), (0, 0), (1, 1), (2, 2), (3, 3), (4, 2147483647)]] (fun t => zop1 894 (zscr (zmk (-2147483648) (0) :: t))) = true := by decide +kernel
theorem zo_19_1 : zallT [[(-2147483648, -1), (0, 0), (1, 1), (2, 2), (3, 3), (4, 2147483647)]] (fun t => zop1 894 (zscr (zmk (1) (1) :: t))) = true := by decide +kernel
theorem zo_19_2 : zallT [[(-2147483648, -1), (0, 0), (1, 1), (2, 2), (3, 3), (4, 2147483647)]] (fun t => zop1 894 (zscr (zmk (2) (2) :: t))) = true := by decide +kernel
theorem zo_19_3 : zallT [[(-2147483648, -1), (0, 0), (1, 1), (2, 2), (3, 3), (4, 2147483647)]] (fun t => zop1 894 (zscr (zmk (3) (3) :: t))) = true := by decide +kernel
theorem zo_19_4 : zallT [[(-2147483648, -1), (0, 0), (1, 1), (2, 2), (3, 3), (4, 2147483647)]] (fun t => zop1 894 (zscr (zmk (4) (4) :: t))) = true := by decide +kernel
theorem zo_19_5 : zallT [[(-2147483648, -1), (0, 0), (1, 1), (2, 2), (3, 3), (4, 2147483647)]] (fun t => zop1 894 (zscr (zmk (5) (5) :: t))) = true := by decide +kernel
theorem zo_19_6 : zallT [[(-2147483648, -1), (0, 0), (1, 1), (2, 2), (3, 3), (4, 2147483647)]] (fun t => zop1 894 (zscr (zmk (6) (6) :: t))) = true := by decide +kernel
theorem zo_19_7 : zallT [[(-2147483648, -1), (0, 0), (1, 1), (2, 2), (3, 3), (4, 2147483647)]] (fun t => zop1 894 (zscr (zmk (7) (7) :: t))) = true := by decide +kernel
theorem zo_19_8 : zallT [[(-2147483648, -1), (0, 0), (1, 1), (2, 2), (3, 3), (4, 2147483647)]] (fun t => zop1 894 (zscr (zmk (8) (8) :: t))) = true := by decide +kernel
theorem zo_19_9 : zallT [[(-2147483648, -1), (0, 0), (1, 1), (2, 2), (3, 3), (4, 2147483647)]] (fun t => zop1 894 (zscr (zmk (9) (9) :: t))) = true := by decide +kernel
theorem zo_19_10 : zallT [[(-2147483648, -1), (0, 0), (1, 1), (2, 2), (3, 3), (4, 2147483647)]] (fun t => zop1 894 (zscr (zmk (10) (10) :: t))) = true := by decide +kernel
theorem zo_19_11 : zallT [[(-2147483648, -1), (0, 0), (1, 1), (2, 2), (3, 3), (4, 2147483647)]] (fun t => zop1 894 (zscr (zmk (11) (11) :: t))) = true := by decide +kernel
theorem zo_19_12 : zallT [[(-2147483648, -1), (0, 0), (1, 1), (2, 2), (3, 3), (4, 2147483647)]] (fun t => zop1 894 (zscr (zmk (12) (12) :: t))) = true := by decide +kernel
theorem zo_19_13 : zallT [[(-2147483648, -1), (0, 0), (1, 1), (2, 2), (3, 3), (4, 2147483647)]] (fun t => zop1 894 (zscr (zmk (13) (13) :: t))) = true := by decide +kernel
theorem zo_19_14 : zallT [[(-2147483648, -1), (0, 0), (1, 1), (2, 2), (3, 3), (4, 2147483647)]] (fun t => zop1 894 (zscr (zmk (14) (14) :: t))) = true := by decide +kernel
theorem zo_19_15 : zallT [[(-2147483648, -1), (0, 0), (1, 1), (2, 2), (3, 3), (4, 2147483647)]] (fun t => zop1 894 (zscr (zmk (15) (15) :: t))) = true := by decide +kernel
theorem zo_19_16 : zallT [[(-2147483648, -1), (0, 0), (1, 1), (2, 2), (3, 3), (4, 2147483647)]] (fun t => zop1 894 (zscr (zmk (16) (16) :: t))) = true := by decide +kernel
theorem zo_19_17 : zallT [[(-2147483648, -1), (0, 0), (1, 1), (2, 2), (3, 3), (4, 2147483647)]] (fun t => zop1 894 (zscr (zmk (17) (17) :: t))) = true := by decide +kernel
theorem zo_19_18 : zallT [[(-2147483648, -1), (0, 0), (1, 1), (2, 2), (3, 3), (4, 2147483647)]] (fun t => zop1 894 (zscr (zmk (18) (18) :: t))) = true := by decide +kernel
theorem zo_19_19 : zallT [[(-2147483648, -1), (0, 0), (1, 1), (2, 2), (3, 3), (4, 2147483647)]] (fun t => zop1 894 (zscr (zmk (19) (19) :: t))) = true := by decide +kernel
theorem zo_19_20 : zallT [[(-2147483648, -1), (0, 0), (1, 1), (2, 2), (3, 3), (4, 2147483647)]] (fun t => zop1 894 (zscr (zmk (20) (20) :: t))) = true := by decide +kernel
theorem zo_19_21 : zallT [[(-2147483648, -1), (0, 0), (1, 1), (2, 2), (3, 3), (4, 2147483647)]] (fun t => zop1 894 (zscr (zmk (21) (2147483647) :: t))) = true := by decide +kernel
theorem zo_19 : zallT zP_19 (fun t => zop1 894 (zscr t)) = true := List.all_eq_true.mpr (List.forall_mem_cons.mpr ⟨zo_19_0, List.forall_mem_cons.mpr ⟨zo_19_1, List.forall_mem_cons.mpr ⟨zo_19_2, List.forall_mem_cons.mpr ⟨zo_19_3, List.forall_mem_cons.mpr ⟨zo_19_4, List.forall_mem_cons.mpr ⟨zo_19_5, List.forall_mem_cons.mpr ⟨zo_19_6, List.forall_mem_cons.mpr ⟨zo_19_7, List.forall_mem_cons.mpr ⟨zo_19_8, List.forall_mem_cons.mpr ⟨zo_19_9, List.forall_mem_cons.mpr ⟨zo_19_10, List.forall_mem_cons.mpr ⟨zo_19_11, List.forall_mem_cons.mpr ⟨zo_19_12, List.forall_mem_cons.mpr ⟨zo_19_13, List.forall_mem_cons.mpr ⟨zo_19_14, List.forall_mem_cons.mpr ⟨zo_19_15, List.forall_mem_cons.mpr ⟨zo_19_16, List.forall_mem_cons.mpr ⟨zo_19_17, List.forall_mem_cons.mpr ⟨zo_19_18, List.forall_mem_cons.mpr ⟨zo_19_19, List.forall_mem_cons.mpr ⟨zo_19_20, List.forall_mem_cons.mpr ⟨zo_19_21, fun _ h => absurd h List.not_mem_nil⟩⟩⟩⟩⟩⟩⟩⟩⟩⟩⟩⟩⟩⟩⟩⟩⟩⟩⟩⟩⟩⟩)
theorem zo_20 : zallT zP_20 (fun t => zop1 927 (zscr t)) = true := by decide +kernel
theorem zo_21_0 : zallT [] (fun t => zop1 940 (zscr (zmk (-2147483648) (0) :: t))) = true := by decide +kernel
theorem zo_21_1 : zallT [] (fun t => zop1 940 (zscr (zmk (1) (1) :: t))) = true := by decide +kernel
theorem zo_21_2 : zallT [] (fun t => zop1 940 (zscr (zmk (2) (2) :: t))) = true := by decide +kernel
theorem zo_21_3 : zallT [] (fun t => zop1 940 (zscr (zmk (3) (3) :: t))) = true := by decide +kernel
theorem zo_21_4 : zallT [] (fun t => zop1 940 (zscr (zmk (4) (4) :: t))) = true := by decide +kernel
theorem zo_21_5 : zallT [] (fun t => zop1 940 (zscr (zmk (5) (5) :: t))) = true := by decide +kernel
theorem zo_21_6 : zallT [] (fun t => zop1 940 (zscr (zmk (6) (6) :: t))) = true := by decide +kernel
theorem zo_21_7 : zallT [] (fun t => zop1 940 (zscr (zmk (7) (7) :: t))) = true := by decide +kernel
theorem zo_21_8 : zallT [] (fun t => zop1 940 (zscr (zmk (8) (8) :: t))) = true := by decide +kernel
theorem zo_21_9 : zallT [] (fun t => zop1 940 (zscr (zmk (9) (9) :: t))) = true := by decide +kernel
theorem zo_21_10 : zallT [] (fun t => zop1 940 (zscr (zmk (10) (10) :: t))) = true := by decide +kernel
theorem zo_21_11 : zallT [] (fun t => zop1 940 (zscr (zmk (11) (11) :: t))) = true := by decide +kernel
theorem zo_21_12 : zallT [] (fun t => zop1 940 (zscr (zmk (12) (12) :: t))) = true := by decide +kernel
theorem zo_21_13 : zallT [] (fun t => zop1 940 (zscr (zmk (13) (13) :: t))) = true := by decide +kernel
theorem zo_21_14 : zallT [] (fun t => zop1 940 (zscr (zmk (14) (14) :: t))) = true := by decide +kernel
theorem zo_21_15 : zallT [] (fun t => zop1 940 (zscr (zmk (15) (15) :: t))) = true := by decide +kernel
theorem zo_21_16 : zallT [] (fun t => zop1 940 (zscr (zmk (16) (16) :: t))) = true := by decide +kernel
theorem zo_21_17 : zallT [] (fun t => zop1 940 (zscr (zmk (17) (17) :: t))) = true := by decide +kernel
theorem zo_21_18 : zallT [] (fun t => zop1 940 (zscr (zmk (18) (18) :: t))) = true := by decide +kernel
theorem zo_21_19 : zallT [] (fun t => zop1 940 (zscr (zmk (19) (19) :: t))) = true := by decide +kernel
theorem zo_21_20 : zallT [] (fun t => zop1 940 (zscr (zmk (20) (20) :: t))) = true := by decide +kernel
theorem zo_21_21 : zallT [] (fun t => zop1 940 (zscr (zmk (21) (2147483647) :: t))) = true := by decide +kernel
theorem zo_21 : zallT zP_21 (fun t => zop1 940 (zscr t)) = true := List.all_eq_true.mpr (List.forall_mem_cons.mpr ⟨zo_21_0, List.forall_mem_cons.mpr ⟨zo_21_1, List.forall_mem_cons.mpr ⟨zo_21_2, List.forall_mem_cons.mpr ⟨zo_21_3, List.forall_mem_cons.mpr ⟨zo_21_4, List.forall_mem_cons.mpr ⟨zo_21_5, List.forall_mem_cons.mpr ⟨zo_21_6, List.forall_mem_cons.mpr ⟨zo_21_7, List.forall_mem_cons.mpr ⟨zo_21_8, List.forall_mem_cons.mpr ⟨zo_21_9, List.forall_mem_cons.mpr ⟨zo_21_10, List.forall_mem_cons.mpr ⟨zo_21_11, List.forall_mem_cons.mpr ⟨zo_21_12, List.forall_mem_cons.mpr ⟨zo_21_13, List.forall_mem_cons.mpr ⟨zo_21_14, List.forall_mem_cons.mpr ⟨zo_21_15, List.forall_mem_cons.mpr ⟨zo_21_16, List.forall_mem_cons.mpr ⟨zo_21_17, List.forall_mem_cons.mpr ⟨zo_21_18, List.forall_mem_cons.mpr ⟨zo_21_19, List.forall_mem_cons.mpr ⟨zo_21_20, List.forall_mem_cons.mpr ⟨zo_21_21, fun _ h => absurd h List.not_mem_nil⟩⟩⟩⟩⟩⟩⟩⟩⟩⟩⟩⟩⟩⟩⟩⟩⟩⟩⟩⟩⟩⟩)
theorem zo_22 : zallT zP_22 (fun t => zop1 963 (zscr t)) = true := by decide +kernel
theorem zo_23 : zallT zP_23 (fun t => zop1 986 (zscr t)) = true := by decide +kernel
theorem zo_24 : zallT zP_24 (fun t => zop1 1009 (zscr t)) = true := by decide +kernel
theorem zo_25 : zallT zP_25 (fun t => zop1 1032 (zscr t)) = true := by decide +kernel
theorem zo_26 : zallT zP_26 (fun t => zop1 1055 (zscr t)) = true := by decide +kernel
theorem zo_27 : zallT zP_27 (fun t => zop1 1088 (zscr t)) = true := by decide +kernel
theorem zo_28 : zallT zP_28 (fun t => zop1 1111 (zscr t)) = true := by decide +kernel
