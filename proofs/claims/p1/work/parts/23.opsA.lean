theorem zo_0_0 : zallT [[(-2147483648, -1), (0, 4), (5, 2147483647)], [(-2147483648, -1), (0, 40), (41, 2147483647)]] (fun t => zop1 256 (zscr (zmk (-2147483648) (-1) :: t))) = true := by decide +kernel
theorem zo_0_1 : zallT [[(-2147483648, -1), (0, 4), (5, 2147483647)], [(-2147483648, -1), (0, 40), (41, 2147483647)]] (fun t => zop1 256 (zscr (zmk (0) (0) :: t))) = true := by decide +kernel
theorem zo_0_2 : zallT [[(-2147483648, -1), (0, 4), (5, 2147483647)], [(-2147483648, -1), (0, 40), (41, 2147483647)]] (fun t => zop1 256 (zscr (zmk (1) (1) :: t))) = true := by decide +kernel
theorem zo_0_3 : zallT [[(-2147483648, -1), (0, 4), (5, 2147483647)], [(-2147483648, -1), (0, 40), (41, 2147483647)]] (fun t => zop1 256 (zscr (zmk (2) (2) :: t))) = true := by decide +kernel
theorem zo_0_4 : zallT [[(-2147483648, -1), (0, 4), (5, 2147483647)], [(-2147483648, -1), (0, 40), (41, 2147483647)]] (fun t => zop1 256 (zscr (zmk (3) (3) :: t))) = true := by decide +kernel
theorem zo_0_5 : zallT [[(-2147483648, -1), (0, 4), (5, 2147483647)], [(-2147483648, -1), (0, 40), (41, 2147483647)]] (fun t => zop1 256 (zscr (zmk (4) (4) :: t))) = true := by decide +kernel
theorem zo_0_6 : zallT [[(-2147483648, -1), (0, 4), (5, 2147483647)], [(-2147483648, -1), (0, 40), (41, 2147483647)]] (fun t => zop1 256 (zscr (zmk (5) (5) :: t))) = true := by decide +kernel
theorem zo_0_7 : zallT [[(-2147483648, -1), (0, 4), (5, 2147483647)], [(-2147483648, -1), (0, 40), (41, 2147483647)]] (fun t => zop1 256 (zscr (zmk (6) (6) :: t))) = true := by decide +kernel
theorem zo_0_8 : zallT [[(-2147483648, -1), (0, 4), (5, 2147483647)], [(-2147483648, -1), (0, 40), (41, 2147483647)]] (fun t => zop1 256 (zscr (zmk (7) (7) :: t))) = true := by decide +kernel
theorem zo_0_9 : zallT [[(-2147483648, -1), (0, 4), (5, 2147483647)], [(-2147483648, -1), (0, 40), (41, 2147483647)]] (fun t => zop1 256 (zscr (zmk (8) (2147483647) :: t))) = true := by decide +kernel
theorem zo_0 : zallT zP_0 (fun t => zop1 256 (zscr t)) = true := List.all_eq_true.mpr (List.forall_mem_cons.mpr ⟨zo_0_0, List.forall_mem_cons.mpr ⟨zo_0_1, List.forall_mem_cons.mpr ⟨zo_0_2, List.forall_mem_cons.mpr ⟨zo_0_3, List.forall_mem_cons.mpr ⟨zo_0_4, List.forall_mem_cons.mpr ⟨zo_0_5, List.forall_mem_cons.mpr ⟨zo_0_6, List.forall_mem_cons.mpr ⟨zo_0_7, List.forall_mem_cons.mpr ⟨zo_0_8, List.forall_mem_cons.mpr ⟨zo_0_9, fun _ h => absurd h List.not_mem_nil⟩⟩⟩⟩⟩⟩⟩⟩⟩⟩)
theorem zo_1 : zallT zP_1 (fun t => zop1 299 (zscr t)) = true := by decide +kernel
theorem zo_3 : zallT zP_3 (fun t => zop1 435 (zscr t)) = true := by decide +kernel
theorem zo_4 : zallT zP_4 (fun t => zop1 469 (zscr t)) = true := by decide +kernel
theorem zo_5_0 : zallT [[(-2147483648, -2), (-1, -1), (0, 2147483647)]] (fun t => zop1 492 (zscr (zmk (-2147483648) (-1) :: t))) = true := by decide +kernel
theorem zo_5_1 : zallT [[(-2147483648, -2), (-1, -1), (0, 2147483647)]] (fun t => zop1 492 (zscr (zmk (0) (0) :: t))) = true := by decide +kernel
theorem zo_5_2 : zallT [[(-2147483648, -2), (-1, -1), (0, 2147483647)]] (fun t => zop1 492 (zscr (zmk (1) (1) :: t))) = true := by decide +kernel
theorem zo_5_3 : zallT [[(-2147483648, -2), (-1, -1), (0, 2147483647)]] (fun t => zop1 492 (zscr (zmk (2) (2) :: t))) = true := by decide +kernel
theorem zo_5_4 : zallT [[(-2147483648, -2), (-1, -1), (0, 2147483647)]] (fun t => zop1 492 (zscr (zmk (3) (3) :: t))) = true := by decide +kernel
theorem zo_5_5 : zallT [[(-2147483648, -2), (-1, -1), (0, 2147483647)]] (fun t => zop1 492 (zscr (zmk (4) (4) :: t))) = true := by decide +kernel
theorem zo_5_6 : zallT [[(-2147483648, -2), (-1, -1), (0, 2147483647)]] (fun t => zop1 492 (zscr (zmk (5) (5) :: t))) = true := by decide +kernel
theorem zo_5_7 : zallT [[(-2147483648, -2), (-1, -1), (0, 2147483647)]] (fun t => zop1 492 (zscr (zmk (6) (6) :: t))) = true := by decide +kernel
theorem zo_5_8 : zallT [[(-2147483648, -2), (-1, -1), (0, 2147483647)]] (fun t => zop1 492 (zscr (zmk (7) (7) :: t))) = true := by decide +kernel
theorem zo_5_9 : zallT [[(-2147483648, -2), (-1, -1), (0, 2147483647)]] (fun t => zop1 492 (zscr (zmk (8) (2147483647) :: t))) = true := by decide +kernel
theorem zo_5 : zallT zP_5 (fun t => zop1 492 (zscr t)) = true := List.all_eq_true.mpr (List.forall_mem_cons.mpr ⟨zo_5_0, List.forall_mem_cons.mpr ⟨zo_5_1, List.forall_mem_cons.mpr ⟨zo_5_2, List.forall_mem_cons.mpr ⟨zo_5_3, List.forall_mem_cons.mpr ⟨zo_5_4, List.forall_mem_cons.mpr ⟨zo_5_5, List.forall_mem_cons.mpr ⟨zo_5_6, List.forall_mem_cons.mpr ⟨zo_5_7, List.forall_mem_cons.mpr ⟨zo_5_8, List.forall_mem_cons.mpr ⟨zo_5_9, fun _ h => absurd h List.not_mem_nil⟩⟩⟩⟩⟩⟩⟩⟩⟩⟩)
theorem zo_6_0 : zallT [[(-2147483648, -1), (0, 5), (6, 2147483647)]] (fun t => zop1 525 (zscr (zmk (-2147483648) (-1) :: t))) = true := by decide +kernel
theorem zo_6_1 : zallT [[(-2147483648, -1), (0, 5), (6, 2147483647)]] (fun t => zop1 525 (zscr (zmk (0) (0) :: t))) = true := by decide +kernel
theorem zo_6_2 : zallT [[(-2147483648, -1), (0, 5), (6, 2147483647)]] (fun t => zop1 525 (zscr (zmk (1) (1) :: t))) = true := by decide +kernel
theorem zo_6_3 : zallT [[(-2147483648, -1), (0, 5), (6, 2147483647)]] (fun t => zop1 525 (zscr (zmk (2) (2) :: t))) = true := by decide +kernel
theorem zo_6_4 : zallT [[(-2147483648, -1), (0, 5), (6, 2147483647)]] (fun t => zop1 525 (zscr (zmk (3) (3) :: t))) = true := by decide +kernel
theorem zo_6_5 : zallT [[(-2147483648, -1), (0, 5), (6, 2147483647)]] (fun t => zop1 525 (zscr (zmk (4) (4) :: t))) = true := by decide +kernel
theorem zo_6_6 : zallT [[(-2147483648, -1), (0, 5), (6, 2147483647)]] (fun t => zop1 525 (zscr (zmk (5) (5) :: t))) = true := by decide +kernel
theorem zo_6_7 : zallT [[(-2147483648, -1), (0, 5), (6, 2147483647)]] (fun t => zop1 525 (zscr (zmk (6) (6) :: t))) = true := by decide +kernel
theorem zo_6_8 : zallT [[(-2147483648, -1), (0, 5), (6, 2147483647)]] (fun t => zop1 525 (zscr (zmk (7) (7) :: t))) = true := by decide +kernel
theorem zo_6_9 : zallT [[(-2147483648, -1), (0, 5), (6, 2147483647)]] (fun t => zop1 525 (zscr (zmk (8) (2147483647) :: t))) = true := by decide +kernel
theorem zo_6 : zallT zP_6 (fun t => zop1 525 (zscr t)) = true := List.all_eq_true.mpr (List.forall_mem_cons.mpr ⟨zo_6_0, List.forall_mem_cons.mpr ⟨zo_6_1, List.forall_mem_cons.mpr ⟨zo_6_2, List.forall_mem_cons.mpr ⟨zo_6_3, List.forall_mem_cons.mpr ⟨zo_6_4, List.forall_mem_cons.mpr ⟨zo_6_5, List.forall_mem_cons.mpr ⟨zo_6_6, List.forall_mem_cons.mpr ⟨zo_6_7, List.forall_mem_cons.mpr ⟨zo_6_8, List.forall_mem_cons.mpr ⟨zo_6_9, fun _ h => absurd h List.not_mem_nil⟩⟩⟩⟩⟩⟩⟩⟩⟩⟩)
theorem zo_7 : zallT zP_7 (fun t => zop1 558 (zscr t)) = true := by decide +kernel
theorem zo_8 : zallT zP_8 (fun t => zop1 581 (zscr t)) = true := by decide +kernel
theorem zo_9 : zallT zP_9 (fun t => zop1 604 (zscr t)) = true := by decide +kernel
