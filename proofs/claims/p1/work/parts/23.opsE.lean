theorem zo_29 : zallT zP_29 (fun t => zop1 1134 (zscr t)) = true := by decide +kernel
theorem zo_30 : zallT zP_30 (fun t => zop1 1147 (zscr t)) = true := by decide +kernel
theorem zo_31_0 : zallT [[(-2147483648, -1), (0, 0), (1, 1), (2, 2147483647)]] (fun t => zop1 1160 (zscr (zmk (-2147483648) (-1) :: t))) = true := by decide +kernel
theorem zo_31_1 : zallT [[(-2147483648, -1), (0, 0), (1, 1), (2, 2147483647)]] (fun t => zop1 1160 (zscr (zmk (0) (0) :: t))) = true := by decide +kernel
theorem zo_31_2 : zallT [[(-2147483648, -1), (0, 0), (1, 1), (2, 2147483647)]] (fun t => zop1 1160 (zscr (zmk (1) (1) :: t))) = true := by decide +kernel
theorem zo_31_3 : zallT [[(-2147483648, -1), (0, 0), (1, 1), (2, 2147483647)]] (fun t => zop1 1160 (zscr (zmk (2) (2) :: t))) = true := by decide +kernel
theorem zo_31_4 : zallT [[(-2147483648, -1), (0, 0), (1, 1), (2, 2147483647)]] (fun t => zop1 1160 (zscr (zmk (3) (3) :: t))) = true := by decide +kernel
theorem zo_31_5 : zallT [[(-2147483648, -1), (0, 0), (1, 1), (2, 2147483647)]] (fun t => zop1 1160 (zscr (zmk (4) (4) :: t))) = true := by decide +kernel
theorem zo_31_6 : zallT [[(-2147483648, -1), (0, 0), (1, 1), (2, 2147483647)]] (fun t => zop1 1160 (zscr (zmk (5) (2147483647) :: t))) = true := by decide +kernel
theorem zo_31 : zallT zP_31 (fun t => zop1 1160 (zscr t)) = true := List.all_eq_true.mpr (List.forall_mem_cons.mpr ⟨zo_31_0, List.forall_mem_cons.mpr ⟨zo_31_1, List.forall_mem_cons.mpr ⟨zo_31_2, List.forall_mem_cons.mpr ⟨zo_31_3, List.forall_mem_cons.mpr ⟨zo_31_4, List.forall_mem_cons.mpr ⟨zo_31_5, List.forall_mem_cons.mpr ⟨zo_31_6, fun _ h => absurd h List.not_mem_nil⟩⟩⟩⟩⟩⟩⟩)
theorem zo_34 : zallT zP_34 (fun t => zop1 1259 (zscr t)) = true := by decide +kernel
