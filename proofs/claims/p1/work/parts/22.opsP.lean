def zP_0 : List (List (Int × Int)) := [[(-2147483648, -1), (0, 0), (1, 1), (2, 2), (3, 3), (4, 4), (5, 5), (6, 6), (7, 7), (8, 2147483647)], [(-2147483648, -1), (0, 4), (5, 2147483647)], [(-2147483648, -1), (0, 40), (41, 2147483647)]]
theorem zcv_0 : zP_0.all zcov = true ∧ zP_0.length ≤ 5 := by decide +kernel
def zP_1 : List (List (Int × Int)) := [[(-2147483648, -1), (0, 0), (1, 1), (2, 2), (3, 3), (4, 4), (5, 5), (6, 6), (7, 7), (8, 2147483647)]]
theorem zcv_1 : zP_1.all zcov = true ∧ zP_1.length ≤ 5 := by decide +kernel
def zP_2 : List (List (Int × Int)) := [[(-2147483648, -1), (0, 0), (1, 1), (2, 2), (3, 3), (4, 4), (5, 5), (6, 6), (7, 7), (8, 2147483647)], [(-2147483648, -1), (0, 0), (1, 1), (2, 2), (3, 3), (4, 4), (5, 5), (6, 6), (7, 7), (8, 2147483647)]]
theorem zcv_2 : zP_2.all zcov = true ∧ zP_2.length ≤ 5 := by decide +kernel
def zP_3 : List (List (Int × Int)) := [[(-2147483648, -1), (0, 0), (1, 1), (2, 2), (3, 3), (4, 4), (5, 5), (6, 6), (7, 7), (8, 2147483647)]]
theorem zcv_3 : zP_3.all zcov = true ∧ zP_3.length ≤ 5 := by decide +kernel
def zP_4 : List (List (Int × Int)) := [[(-2147483648, -1), (0, 0), (1, 1), (2, 2), (3, 3), (4, 4), (5, 5), (6, 6), (7, 7), (8, 2147483647)]]
theorem zcv_4 : zP_4.all zcov = true ∧ zP_4.length ≤ 5 := by decide +kernel
def zP_5 : List (List (Int × Int)) := [[(-2147483648, -1), (0, 0), (1, 1), (2, 2), (3, 3), (4, 4), (5, 5), (6, 6), (7, 7), (8, 2147483647)], [(-2147483648, -2), (-1, -1), (0, 2147483647)]]
theorem zcv_5 : zP_5.all zcov = true ∧ zP_5.length ≤ 5 := by decide +kernel
def zP_6 : List (List (Int × Int)) := [[(-2147483648, -1), (0, 0), (1, 1), (2, 2), (3, 3), (4, 4), (5, 5), (6, 6), (7, 7), (8, 2147483647)], [(-2147483648, -1), (0, 5), (6, 2147483647)]]
theorem zcv_6 : zP_6.all zcov = true ∧ zP_6.length ≤ 5 := by decide +kernel
def zP_7 : List (List (Int × Int)) := [[(-2147483648, 0), (1, 60), (61, 2147483647)]]
theorem zcv_7 : zP_7.all zcov = true ∧ zP_7.length ≤ 5 := by decide +kernel
def zP_8 : List (List (Int × Int)) := [[(-2147483648, 1), (2, 10), (11, 2147483647)]]
theorem zcv_8 : zP_8.all zcov = true ∧ zP_8.length ≤ 5 := by decide +kernel
def zP_9 : List (List (Int × Int)) := [[(-2147483648, -1), (0, 0), (1, 1), (2, 2147483647)], [(-2147483648, 0), (1, 99), (100, 495), (496, 2147483647)]]
theorem zcv_9 : zP_9.all zcov = true ∧ zP_9.length ≤ 5 := by decide +kernel
def zP_10 : List (List (Int × Int)) := [[(-2147483648, -1), (0, 5), (6, 2147483647)], [(-2147483648, 0), (1, 1), (2, 2), (3, 3), (4, 4), (5, 5), (6, 6), (7, 7), (8, 8), (9, 9), (10, 10), (11, 11), (12, 12), (13, 13), (14, 14), (15, 15), (16, 16), (17, 17), (18, 18), (19, 19), (20, 20), (21, 2147483647)], [(-2147483648, -1), (0, 9), (10, 2147483647)]]
theorem zcv_10 : zP_10.all zcov = true ∧ zP_10.length ≤ 5 := by decide +kernel
def zP_11 : List (List (Int × Int)) := [[(-2147483648, -1), (0, 9999), (10000, 2147483647)]]
theorem zcv_11 : zP_11.all zcov = true ∧ zP_11.length ≤ 5 := by decide +kernel
def zP_12 : List (List (Int × Int)) := [[(-2147483648, -1), (0, 2147483647)]]
theorem zcv_12 : zP_12.all zcov = true ∧ zP_12.length ≤ 5 := by decide +kernel
def zP_13 : List (List (Int × Int)) := [[(-2147483648, -1), (0, 2147483647)]]
theorem zcv_13 : zP_13.all zcov = true ∧ zP_13.length ≤ 5 := by decide +kernel
def zP_14 : List (List (Int × Int)) := [[(-2147483648, -1), (0, 255), (256, 2147483647)]]
theorem zcv_14 : zP_14.all zcov = true ∧ zP_14.length ≤ 5 := by decide +kernel
def zP_15 : List (List (Int × Int)) := []
theorem zcv_15 : zP_15.all zcov = true ∧ zP_15.length ≤ 5 := by decide +kernel
def zP_16 : List (List (Int × Int)) := []
theorem zcv_16 : zP_16.all zcov = true ∧ zP_16.length ≤ 5 := by decide +kernel
def zP_17 : List (List (Int × Int)) := [[(-2147483648, -1), (0, 2147483647)]]
theorem zcv_17 : zP_17.all zcov = true ∧ zP_17.length ≤ 5 := by decide +kernel
def zP_18 : List (List (Int × Int)) := [[(-2147483648, -1), (0, 2147483647)]]
theorem zcv_18 : zP_18.all zcov = true ∧ zP_18.length ≤ 5 := by decide +kernel
def zP_19 : List (List (Int × Int)) := [[(-2147483648, 0), (1, 1), (2, 2), (3, 3), (4, 4), (5, 5), (6, 6), (7, 7), (8, 8), (9, 9), (10, 10), (11, 11), (12, 12), (13, 13), (14, 14), (15, 15), (16, 16), (17, 17), (18, 18), (19, 19), (20, 20), (21, 2147483647)], [(-2147483648, -1), (0, 0), (1, 1), (2, 2), (3, 3), (4, 2147483647)]]
theorem zcv_19 : zP_19.all zcov = true ∧ zP_19.length ≤ 5 := by decide +kernel
def zP_20 : List (List (Int × Int)) := []
theorem zcv_20 : zP_20.all zcov = true ∧ zP_20.length ≤ 5 := by decide +kernel
def zP_21 : List (List (Int × Int)) := [[(-2147483648, 0), (1, 1), (2, 2), (3, 3), (4, 4), (5, 5), (6, 6), (7, 7), (8, 8), (9, 9), (10, 10), (11, 11), (12, 12), (13, 13), (14, 14), (15, 15), (16, 16), (17, 17), (18, 18), (19, 19), (20, 20), (21, 2147483647)]]
theorem zcv_21 : zP_21.all zcov = true ∧ zP_21.length ≤ 5 := by decide +kernel
def zP_22 : List (List (Int × Int)) := [[(-2147483648, -1), (0, 2147483647)]]
theorem zcv_22 : zP_22.all zcov = true ∧ zP_22.length ≤ 5 := by decide +kernel
def zP_23 : List (List (Int × Int)) := [[(-2147483648, -1), (0, 2147483647)]]
theorem zcv_23 : zP_23.all zcov = true ∧ zP_23.length ≤ 5 := by decide +kernel
def zP_24 : List (List (Int × Int)) := [[(-2147483648, -1), (0, 2147483647)]]
theorem zcv_24 : zP_24.all zcov = true ∧ zP_24.length ≤ 5 := by decide +kernel
def zP_25 : List (List (Int × Int)) := [[(-2147483648, -1), (0, 2147483647)]]
theorem zcv_25 : zP_25.all zcov = true ∧ zP_25.length ≤ 5 := by decide +kernel
def zP_26 : List (List (Int × Int)) := [[(-2147483648, -1), (0, 2147483647)]]
theorem zcv_26 : zP_26.all zcov = true ∧ zP_26.length ≤ 5 := by decide +kernel
def zP_27 : List (List (Int × Int)) := [[(-2147483648, -1), (0, 2147483647)]]
theorem zcv_27 : zP_27.all zcov = true ∧ zP_27.length ≤ 5 := by decide +kernel
def zP_28 : List (List (Int × Int)) := [[(-2147483648, 0), (1, 99), (100, 2147483647)]]
theorem zcv_28 : zP_28.all zcov = true ∧ zP_28.length ≤ 5 := by decide +kernel
def zP_29 : List (List (Int × Int)) := []
theorem zcv_29 : zP_29.all zcov = true ∧ zP_29.length ≤ 5 := by decide +kernel
def zP_30 : List (List (Int × Int)) := []
theorem zcv_30 : zP_30.all zcov = true ∧ zP_30.length ≤ 5 := by decide +kernel
def zP_31 : List (List (Int × Int)) := [[(-2147483648, -1), (0, 0), (1, 1), (2, 2), (3, 3), (4, 4), (5, 2147483647)], [(-2147483648, -1), (0, 0), (1, 1), (2, 2147483647)]]
theorem zcv_31 : zP_31.all zcov = true ∧ zP_31.length ≤ 5 := by decide +kernel
def zP_34 : List (List (Int × Int)) := [[(-2147483648, -1), (0, 20), (21, 2147483647)]]
theorem zcv_34 : zP_34.all zcov = true ∧ zP_34.length ≤ 5 := by decide +kernel
def zP_35 : List (List (Int × Int)) := [[(-2147483648, -1), (0, 0), (1, 1), (2, 2), (3, 3), (4, 4), (5, 5), (6, 6), (7, 7), (8, 2147483647)], [(-2147483648, -1), (0, 40), (41, 2147483647)]]
theorem zcv_35 : zP_35.all zcov = true ∧ zP_35.length ≤ 5 := by decide +kernel
def zP_36 : List (List (Int × Int)) := [[(-2147483648, -1), (0, 0), (1, 1), (2, 2), (3, 3), (4, 4), (5, 5), (6, 6), (7, 7), (8, 2147483647)], [(-2147483648, -1), (0, 40), (41, 2147483647)]]
theorem zcv_36 : zP_36.all zcov = true ∧ zP_36.length ≤ 5 := by decide +kernel
def zP_37 : List (List (Int × Int)) := [[(-2147483648, -1), (0, 7), (8, 2147483647)], [(-2147483648, -1), (0, 40), (41, 2147483647)], [(-2147483648, -1), (0, 2147483647)]]
theorem zcv_37 : zP_37.all zcov = true ∧ zP_37.length ≤ 5 := by decide +kernel
def zP_38 : List (List (Int × Int)) := [[(-2147483648, -1), (0, 2147483647)]]
theorem zcv_38 : zP_38.all zcov = true ∧ zP_38.length ≤ 5 := by decide +kernel
def zP_39 : List (List (Int × Int)) := [[(-2147483648, -1), (0, 2147483647)]]
theorem zcv_39 : zP_39.all zcov = true ∧ zP_39.length ≤ 5 := by decide +kernel
def zP_40 : List (List (Int × Int)) := [[(-2147483648, -1), (0, 2147483647)]]
theorem zcv_40 : zP_40.all zcov = true ∧ zP_40.length ≤ 5 := by decide +kernel
def zP_41 : List (List (Int × Int)) := []
theorem zcv_41 : zP_41.all zcov = true ∧ zP_41.length ≤ 5 := by decide +kernel
def zP_42 : List (List (Int × Int)) := []
theorem zcv_42 : zP_42.all zcov = true ∧ zP_42.length ≤ 5 := by decide +kernel
def zP_43 : List (List (Int × Int)) := []
theorem zcv_43 : zP_43.all zcov = true ∧ zP_43.length ≤ 5 := by decide +kernel
def zP_44 : List (List (Int × Int)) := [[(-2147483648, -1), (0, 2147483647)]]
theorem zcv_44 : zP_44.all zcov = true ∧ zP_44.length ≤ 5 := by decide +kernel
def zP_45 : List (List (Int × Int)) := [[(-2147483648, -1), (0, 2147483647)]]
theorem zcv_45 : zP_45.all zcov = true ∧ zP_45.length ≤ 5 := by decide +kernel
def zP_46 : List (List (Int × Int)) := [[(-2147483648, -1), (0, 2147483647)]]
theorem zcv_46 : zP_46.all zcov = true ∧ zP_46.length ≤ 5 := by decide +kernel
def zP_47 : List (List (Int × Int)) := [[(-2147483648, -1), (0, 1000), (1001, 2147483647)]]
theorem zcv_47 : zP_47.all zcov = true ∧ zP_47.length ≤ 5 := by decide +kernel
def zP_48 : List (List (Int × Int)) := []
theorem zcv_48 : zP_48.all zcov = true ∧ zP_48.length ≤ 5 := by decide +kernel
def zP_49 : List (List (Int × Int)) := []
theorem zcv_49 : zP_49.all zcov = true ∧ zP_49.length ≤ 5 := by decide +kernel
def zP_50 : List (List (Int × Int)) := []
theorem zcv_50 : zP_50.all zcov = true ∧ zP_50.length ≤ 5 := by decide +kernel
def zP_51 : List (List (Int × Int)) := [[(-2147483648, -1), (0, 0), (1, 1), (2, 2), (3, 3), (4, 4), (5, 5), (6, 6), (7, 7), (8, 8), (9, 9), (10, 10), (11, 11), (12, 12), (13, 13), (14, 14), (15, 15), (16, 16), (17, 2147483647)]]
theorem zcv_51 : zP_51.all zcov = true ∧ zP_51.length ≤ 5 := by decide +kernel
def zP_52 : List (List (Int × Int)) := []
theorem zcv_52 : zP_52.all zcov = true ∧ zP_52.length ≤ 5 := by decide +kernel
