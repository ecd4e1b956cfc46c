theorem zk_X4_isWithin : zOkC zprog zst zTG zTN ze_X4_isWithin := zOkC_of (by decide +kernel) [] (by decide +kernel) (by decide +kernel) [] (by decide +kernel) (by decide +kernel)
theorem zs_X4_isWithin : zmside ze_X4_isWithin = true := by decide +kernel
set_option maxRecDepth 100000 in
theorem zm_X4_isWithin : ∀ w ∈ zmwords ze_X4_isWithin, w ∈ zTG := zmw_of 276 rfl [275, 53] (by decide +kernel) (by decide +kernel)
theorem zk_X5_in : zOkC zprog zst zTG zTN ze_X5_in := zOkC_of (by decide +kernel) [] (by decide +kernel) (by decide +kernel) [] (by decide +kernel) (by decide +kernel)
theorem zs_X5_in : zmside ze_X5_in = true := by decide +kernel
set_option maxRecDepth 100000 in
theorem zm_X5_in : ∀ w ∈ zmwords ze_X5_in, w ∈ zTG := zmw_of 1071 rfl [1070, 58] (by decide +kernel) (by decide +kernel)
theorem zk_X4_refuse : zOkC zprog zst zTG zTN ze_X4_refuse := zOkC_of (by decide +kernel) [274, 248] (by decide +kernel) (by decide +kernel) [] (by decide +kernel) (by decide +kernel)
theorem zs_X4_refuse : zmside ze_X4_refuse = true := by decide +kernel
set_option maxRecDepth 100000 in
theorem zm_X4_refuse : ∀ w ∈ zmwords ze_X4_refuse, w ∈ zTG := zmw_of 280 rfl [279, 0, 53] (by decide +kernel) (by decide +kernel)
theorem zk_X5_refuse : zOkC zprog zst zTG zTN ze_X5_refuse := zOkC_of (by decide +kernel) [948] (by decide +kernel) (by decide +kernel) [] (by decide +kernel) (by decide +kernel)
theorem zs_X5_refuse : zmside ze_X5_refuse = true := by decide +kernel
set_option maxRecDepth 100000 in
theorem zm_X5_refuse : ∀ w ∈ zmwords ze_X5_refuse, w ∈ zTG := zmw_of 1077 rfl [1076, 6, 58] (by decide +kernel) (by decide +kernel)
theorem zk_X4_isShelf : zOkC zprog zst zTG zTN ze_X4_isShelf := zOkC_of (by decide +kernel) [274] (by decide +kernel) (by decide +kernel) [] (by decide +kernel) (by decide +kernel)
theorem zs_X4_isShelf : zmside ze_X4_isShelf = true := by decide +kernel
set_option maxRecDepth 100000 in
theorem zm_X4_isShelf : ∀ w ∈ zmwords ze_X4_isShelf, w ∈ zTG := zmw_of 273 rfl [272, 53] (by decide +kernel) (by decide +kernel)
theorem zk_X1_isSlip : zOkC zprog zst zTG zTN ze_X1_isSlip := zOkC_of (by decide +kernel) [89] (by decide +kernel) (by decide +kernel) [] (by decide +kernel) (by decide +kernel)
theorem zs_X1_isSlip : zmside ze_X1_isSlip = true := by decide +kernel
set_option maxRecDepth 100000 in
theorem zm_X1_isSlip : ∀ w ∈ zmwords ze_X1_isSlip, w ∈ zTG := zmw_of 428 rfl [426, 427, 54] (by decide +kernel) (by decide +kernel)
theorem zk_X1_quartersOf : zOkC zprog zst zTG zTN ze_X1_quartersOf := zOkC_of (by decide +kernel) [89, 89, 89] (by decide +kernel) (by decide +kernel) [] (by decide +kernel) (by decide +kernel)
theorem zs_X1_quartersOf : zmside ze_X1_quartersOf = true := by decide +kernel
set_option maxRecDepth 100000 in
theorem zm_X1_quartersOf : ∀ w ∈ zmwords ze_X1_quartersOf, w ∈ zTG := zmw_of 789 rfl [787, 788, 54] (by decide +kernel) (by decide +kernel)
theorem zk_X5_fullWith : zOkC zprog zst zTG zTN ze_X5_fullWith := zOkC_of (by decide +kernel) [949, 949] (by decide +kernel) (by decide +kernel) [] (by decide +kernel) (by decide +kernel)
theorem zs_X5_fullWith : zmside ze_X5_fullWith = true := by decide +kernel
set_option maxRecDepth 100000 in
theorem zm_X5_fullWith : ∀ w ∈ zmwords ze_X5_fullWith, w ∈ zTG := zmw_of 1394 rfl [1393, 44, 58] (by decide +kernel) (by decide +kernel)
theorem zk_X4_thing : zOkC zprog zst zTG zTN ze_X4_thing := zOkC_of (by decide +kernel) [274, 274, 242, 425, 242, 429, 277, 242, 433, 242, 113, 242, 445] (by decide +kernel) (by decide +kernel) [] (by decide +kernel) (by decide +kernel)
theorem zs_X4_thing : zmside ze_X4_thing = true := by decide +kernel
set_option maxRecDepth 100000 in
theorem zm_X4_thing : ∀ w ∈ zmwords ze_X4_thing, w ∈ zTG := zmw_of 424 rfl [422, 423, 53] (by decide +kernel) (by decide +kernel)
theorem zk_X5_thing : zOkC zprog zst zTG zTN ze_X5_thing := zOkC_of (by decide +kernel) [1113, 1069, 1154, 1158, 1069, 1074, 956, 1159, 957, 1163, 957] (by decide +kernel) (by decide +kernel) [] (by decide +kernel) (by decide +kernel)
theorem zs_X5_thing : zmside ze_X5_thing = true := by decide +kernel
set_option maxRecDepth 100000 in
theorem zm_X5_thing : ∀ w ∈ zmwords ze_X5_thing, w ∈ zTG := zmw_of 1153 rfl [1151, 1152, 58] (by decide +kernel) (by decide +kernel)
theorem zk_X0_holdsRow : zOkC zprog zst zTG zTN ze_X0_holdsRow := zOkC_of (by decide +kernel) [228] (by decide +kernel) (by decide +kernel) [297] (by decide +kernel) (by decide +kernel)
theorem zs_X0_holdsRow : zmside ze_X0_holdsRow = true := by decide +kernel
set_option maxRecDepth 100000 in
theorem zm_X0_holdsRow : ∀ w ∈ zmwords ze_X0_holdsRow, w ∈ zTG := zmw_of 296 rfl [294, 295, 57] (by decide +kernel) (by decide +kernel)
theorem zk_X0_lackOfRow : zOkC zprog zst zTG zTN ze_X0_lackOfRow := zOkC_of (by decide +kernel) [293, 228] (by decide +kernel) (by decide +kernel) [] (by decide +kernel) (by decide +kernel)
theorem zs_X0_lackOfRow : zmside ze_X0_lackOfRow = true := by decide +kernel
set_option maxRecDepth 100000 in
theorem zm_X0_lackOfRow : ∀ w ∈ zmwords ze_X0_lackOfRow, w ∈ zTG := zmw_of 292 rfl [290, 291, 57] (by decide +kernel) (by decide +kernel)
theorem zk_X4_slipOf : zOkC zprog zst zTG zTN ze_X4_slipOf := zOkC_of (by decide +kernel) [242, 425, 277, 242, 636, 357, 242, 429, 357, 242, 637, 357, 242, 647, 277] (by decide +kernel) (by decide +kernel) [] (by decide +kernel) (by decide +kernel)
theorem zs_X4_slipOf : zmside ze_X4_slipOf = true := by decide +kernel
set_option maxRecDepth 100000 in
theorem zm_X4_slipOf : ∀ w ∈ zmwords ze_X4_slipOf, w ∈ zTG := zmw_of 635 rfl [633, 634, 53] (by decide +kernel) (by decide +kernel)
theorem zk_X5_slipOf : zOkC zprog zst zTG zTN ze_X5_slipOf := zOkC_of (by decide +kernel) [949, 1069, 1074, 956, 950, 1296, 1159, 1074] (by decide +kernel) (by decide +kernel) [] (by decide +kernel) (by decide +kernel)
theorem zs_X5_slipOf : zmside ze_X5_slipOf = true := by decide +kernel
set_option maxRecDepth 100000 in
theorem zm_X5_slipOf : ∀ w ∈ zmwords ze_X5_slipOf, w ∈ zTG := zmw_of 1307 rfl [1305, 1306, 58] (by decide +kernel) (by decide +kernel)
theorem zk_X5_thingOn : zOkC zprog zst zTG zTN ze_X5_thingOn := zOkC_of (by decide +kernel) [957] (by decide +kernel) (by decide +kernel) [] (by decide +kernel) (by decide +kernel)
theorem zs_X5_thingOn : zmside ze_X5_thingOn = true := by decide +kernel
set_option maxRecDepth 100000 in
theorem zm_X5_thingOn : ∀ w ∈ zmwords ze_X5_thingOn, w ∈ zTG := zmw_of 1162 rfl [1161, 14, 58] (by decide +kernel) (by decide +kernel)
theorem zk_X4_copy : zOkC zprog zst zTG zTN ze_X4_copy := zOkC_of (by decide +kernel) [271, 271, 277, 247, 247, 313, 277] (by decide +kernel) (by decide +kernel) [] (by decide +kernel) (by decide +kernel)
theorem zs_X4_copy : zmside ze_X4_copy = true := by decide +kernel
set_option maxRecDepth 100000 in
theorem zm_X4_copy : ∀ w ∈ zmwords ze_X4_copy, w ∈ zTG := zmw_of 312 rfl [310, 311, 53] (by decide +kernel) (by decide +kernel)
theorem zk_X5_copy : zOkC zprog zst zTG zTN ze_X5_copy := zOkC_of (by decide +kernel) [1068, 1069, 1068, 1069, 1074, 940, 940, 940, 940, 1074] (by decide +kernel) (by decide +kernel) [] (by decide +kernel) (by decide +kernel)
theorem zs_X5_copy : zmside ze_X5_copy = true := by decide +kernel
set_option maxRecDepth 100000 in
theorem zm_X5_copy : ∀ w ∈ zmwords ze_X5_copy, w ∈ zTG := zmw_of 1092 rfl [1090, 1091, 58] (by decide +kernel) (by decide +kernel)
theorem zk_X4_row : zOkC zprog zst zTG zTN ze_X4_row := zOkC_of (by decide +kernel) [271, 274, 274, 277, 247, 281] (by decide +kernel) (by decide +kernel) [] (by decide +kernel) (by decide +kernel)
theorem zs_X4_row : zmside ze_X4_row = true := by decide +kernel
set_option maxRecDepth 100000 in
theorem zm_X4_row : ∀ w ∈ zmwords ze_X4_row, w ∈ zTG := zmw_of 270 rfl [268, 269, 53] (by decide +kernel) (by decide +kernel)
theorem zk_X5_row : zOkC zprog zst zTG zTN ze_X5_row := zOkC_of (by decide +kernel) [1068, 1069, 1072, 1069, 1073, 1069, 1074, 940, 941, 942, 943] (by decide +kernel) (by decide +kernel) [] (by decide +kernel) (by decide +kernel)
theorem zs_X5_row : zmside ze_X5_row = true := by decide +kernel
set_option maxRecDepth 100000 in
theorem zm_X5_row : ∀ w ∈ zmwords ze_X5_row, w ∈ zTG := zmw_of 1067 rfl [1065, 1066, 58] (by decide +kernel) (by decide +kernel)
theorem zk_X1_thingOn : zOkC zprog zst zTG zTN ze_X1_thingOn := zOkC_of (by decide +kernel) [110] (by decide +kernel) (by decide +kernel) [] (by decide +kernel) (by decide +kernel)
theorem zs_X1_thingOn : zmside ze_X1_thingOn = true := by decide +kernel
set_option maxRecDepth 100000 in
theorem zm_X1_thingOn : ∀ w ∈ zmwords ze_X1_thingOn, w ∈ zTG := zmw_of 444 rfl [442, 443, 54] (by decide +kernel) (by decide +kernel)
theorem zk_X1_isThing : zOkC zprog zst zTG zTN ze_X1_isThing := zOkC_of (by decide +kernel) [110] (by decide +kernel) (by decide +kernel) [] (by decide +kernel) (by decide +kernel)
theorem zs_X1_isThing : zmside ze_X1_isThing = true := by decide +kernel
set_option maxRecDepth 100000 in
theorem zm_X1_isThing : ∀ w ∈ zmwords ze_X1_isThing, w ∈ zTG := zmw_of 338 rfl [336, 337, 54] (by decide +kernel) (by decide +kernel)
theorem zk_X5_canDraw : zOkC zprog zst zTG zTN ze_X5_canDraw := zOkC_of (by decide +kernel) [949, 1069, 956, 1159] (by decide +kernel) (by decide +kernel) [] (by decide +kernel) (by decide +kernel)
theorem zs_X5_canDraw : zmside ze_X5_canDraw = true := by decide +kernel
set_option maxRecDepth 100000 in
theorem zm_X5_canDraw : ∀ w ∈ zmwords ze_X5_canDraw, w ∈ zTG := zmw_of 1299 rfl [1298, 33, 58] (by decide +kernel) (by decide +kernel)
theorem zk_X5_isWinner : zOkC zprog zst zTG zTN ze_X5_isWinner := zOkC_of (by decide +kernel) [949, 1069, 950] (by decide +kernel) (by decide +kernel) [] (by decide +kernel) (by decide +kernel)
theorem zs_X5_isWinner : zmside ze_X5_isWinner = true := by decide +kernel
set_option maxRecDepth 100000 in
theorem zm_X5_isWinner : ∀ w ∈ zmwords ze_X5_isWinner, w ∈ zTG := zmw_of 1157 rfl [1156, 13, 58] (by decide +kernel) (by decide +kernel)
theorem zk_X4_lackOfRows : zOkC zprog zst zTG zTN ze_X4_lackOfRows := zOkC_of (by decide +kernel) [289, 289] (by decide +kernel) (by decide +kernel) [] (by decide +kernel) (by decide +kernel)
theorem zs_X4_lackOfRows : zmside ze_X4_lackOfRows = true := by decide +kernel
set_option maxRecDepth 100000 in
theorem zm_X4_lackOfRows : ∀ w ∈ zmwords ze_X4_lackOfRows, w ∈ zTG := zmw_of 315 rfl [314, 53] (by decide +kernel) (by decide +kernel)
theorem zk_X1_isIn : zOkC zprog zst zTG zTN ze_X1_isIn := zOkC_of (by decide +kernel) [109] (by decide +kernel) (by decide +kernel) [] (by decide +kernel) (by decide +kernel)
theorem zs_X1_isIn : zmside ze_X1_isIn = true := by decide +kernel
set_option maxRecDepth 100000 in
theorem zm_X1_isIn : ∀ w ∈ zmwords ze_X1_isIn, w ∈ zTG := zmw_of 440 rfl [438, 439, 54] (by decide +kernel) (by decide +kernel)
theorem zk_X4_asNumber : zOkC zprog zst zTG zTN ze_X4_asNumber := zOkC_of (by decide +kernel) [] (by decide +kernel) (by decide +kernel) [] (by decide +kernel) (by decide +kernel)
theorem zs_X4_asNumber : zmside ze_X4_asNumber = true := by decide +kernel
set_option maxRecDepth 100000 in
theorem zm_X4_asNumber : ∀ w ∈ zmwords ze_X4_asNumber, w ∈ zTG := zmw_of 308 rfl [307, 53] (by decide +kernel) (by decide +kernel)
theorem zk_X1_stands : zOkC zprog zst zTG zTN ze_X1_stands := zOkC_of (by decide +kernel) [356] (by decide +kernel) (by decide +kernel) [] (by decide +kernel) (by decide +kernel)
theorem zs_X1_stands : zmside ze_X1_stands = true := by decide +kernel
set_option maxRecDepth 100000 in
theorem zm_X1_stands : ∀ w ∈ zmwords ze_X1_stands, w ∈ zTG := zmw_of 355 rfl [353, 354, 54] (by decide +kernel) (by decide +kernel)
theorem zk_X4_lackOfBook : zOkC zprog zst zTG zTN ze_X4_lackOfBook := zOkC_of (by decide +kernel) [271, 274, 247, 289] (by decide +kernel) (by decide +kernel) [] (by decide +kernel) (by decide +kernel)
theorem zs_X4_lackOfBook : zmside ze_X4_lackOfBook = true := by decide +kernel
set_option maxRecDepth 100000 in
theorem zm_X4_lackOfBook : ∀ w ∈ zmwords ze_X4_lackOfBook, w ∈ zTG := zmw_of 818 rfl [817, 3, 53] (by decide +kernel) (by decide +kernel)
theorem zk_X5_noBook : zOkC zprog zst zTG zTN ze_X5_noBook := zOkC_of (by decide +kernel) [1068, 1069, 1073, 1069, 1074, 1082] (by decide +kernel) (by decide +kernel) [] (by decide +kernel) (by decide +kernel)
theorem zs_X5_noBook : zmside ze_X5_noBook = true := by decide +kernel
set_option maxRecDepth 100000 in
theorem zm_X5_noBook : ∀ w ∈ zmwords ze_X5_noBook, w ∈ zTG := zmw_of 1423 rfl [1422, 45, 58] (by decide +kernel) (by decide +kernel)
theorem zk_X0_init : zOkC zprog zst zTG zTN ze_X0_init := zOkC_of (by decide +kernel) [227, 228, 230, 241, 232] (by decide +kernel) (by decide +kernel) [] (by decide +kernel) (by decide +kernel)
theorem zs_X0_init : zmside ze_X0_init = true := by decide +kernel
set_option maxRecDepth 100000 in
theorem zm_X0_init : ∀ w ∈ zmwords ze_X0_init, w ∈ zTG := zmw_of 226 rfl [225, 57] (by decide +kernel) (by decide +kernel)
theorem zk_X1_isBuyer : zOkC zprog zst zTG zTN ze_X1_isBuyer := zOkC_of (by decide +kernel) [124] (by decide +kernel) (by decide +kernel) [] (by decide +kernel) (by decide +kernel)
theorem zs_X1_isBuyer : zmside ze_X1_isBuyer = true := by decide +kernel
set_option maxRecDepth 100000 in
theorem zm_X1_isBuyer : ∀ w ∈ zmwords ze_X1_isBuyer, w ∈ zTG := zmw_of 407 rfl [405, 406, 54] (by decide +kernel) (by decide +kernel)
theorem zk_X1_isWinner : zOkC zprog zst zTG zTN ze_X1_isWinner := zOkC_of (by decide +kernel) [92, 92] (by decide +kernel) (by decide +kernel) [] (by decide +kernel) (by decide +kernel)
theorem zs_X1_isWinner : zmside ze_X1_isWinner = true := by decide +kernel
set_option maxRecDepth 100000 in
theorem zm_X1_isWinner : ∀ w ∈ zmwords ze_X1_isWinner, w ∈ zTG := zmw_of 432 rfl [430, 431, 54] (by decide +kernel) (by decide +kernel)
theorem zk_X1_canBeDrawn : zOkC zprog zst zTG zTN ze_X1_canBeDrawn := zOkC_of (by decide +kernel) [641, 437, 441, 642] (by decide +kernel) (by decide +kernel) [] (by decide +kernel) (by decide +kernel)
theorem zs_X1_canBeDrawn : zmside ze_X1_canBeDrawn = true := by decide +kernel
set_option maxRecDepth 100000 in
theorem zm_X1_canBeDrawn : ∀ w ∈ zmwords ze_X1_canBeDrawn, w ∈ zTG := zmw_of 640 rfl [638, 639, 54] (by decide +kernel) (by decide +kernel)
theorem zk_X5_over : zOkC zprog zst zTG zTN ze_X5_over := zOkC_of (by decide +kernel) [] (by decide +kernel) (by decide +kernel) [] (by decide +kernel) (by decide +kernel)
theorem zs_X5_over : zmside ze_X5_over = true := by decide +kernel
set_option maxRecDepth 100000 in
theorem zm_X5_over : ∀ w ∈ zmwords ze_X5_over, w ∈ zTG := zmw_of 1214 rfl [1213, 58] (by decide +kernel) (by decide +kernel)
theorem zk_X4_show : zOkC zprog zst zTG zTN ze_X4_show := zOkC_of (by decide +kernel) [271, 242, 335, 277, 247, 229] (by decide +kernel) (by decide +kernel) [] (by decide +kernel) (by decide +kernel)
theorem zs_X4_show : zmside ze_X4_show = true := by decide +kernel
set_option maxRecDepth 100000 in
theorem zm_X4_show : ∀ w ∈ zmwords ze_X4_show, w ∈ zTG := zmw_of 334 rfl [332, 333, 53] (by decide +kernel) (by decide +kernel)
theorem zk_X5_show : zOkC zprog zst zTG zTN ze_X5_show := zOkC_of (by decide +kernel) [1068, 1069, 1105, 1074, 940, 945] (by decide +kernel) (by decide +kernel) [] (by decide +kernel) (by decide +kernel)
theorem zs_X5_show : zmside ze_X5_show = true := by decide +kernel
set_option maxRecDepth 100000 in
theorem zm_X5_show : ∀ w ∈ zmwords ze_X5_show, w ∈ zTG := zmw_of 1104 rfl [1102, 1103, 58] (by decide +kernel) (by decide +kernel)
theorem zk_X4_says : zOkC zprog zst zTG zTN ze_X4_says := zOkC_of (by decide +kernel) [271, 274, 277, 247, 229, 277] (by decide +kernel) (by decide +kernel) [] (by decide +kernel) (by decide +kernel)
theorem zs_X4_says : zmside ze_X4_says = true := by decide +kernel
set_option maxRecDepth 100000 in
theorem zm_X4_says : ∀ w ∈ zmwords ze_X4_says, w ∈ zTG := zmw_of 342 rfl [340, 341, 53] (by decide +kernel) (by decide +kernel)
theorem zk_X5_says : zOkC zprog zst zTG zTN ze_X5_says := zOkC_of (by decide +kernel) [1068, 1069, 1113, 1069, 1074, 940, 940, 940, 1074] (by decide +kernel) (by decide +kernel) [] (by decide +kernel) (by decide +kernel)
theorem zs_X5_says : zmside ze_X5_says = true := by decide +kernel
set_option maxRecDepth 100000 in
theorem zm_X5_says : ∀ w ∈ zmwords ze_X5_says, w ∈ zTG := zmw_of 1112 rfl [1110, 1111, 58] (by decide +kernel) (by decide +kernel)
theorem zk_X4_judge : zOkC zprog zst zTG zTN ze_X4_judge := zOkC_of (by decide +kernel) [815, 277] (by decide +kernel) (by decide +kernel) [] (by decide +kernel) (by decide +kernel)
theorem zs_X4_judge : zmside ze_X4_judge = true := by decide +kernel
set_option maxRecDepth 100000 in
theorem zm_X4_judge : ∀ w ∈ zmwords ze_X4_judge, w ∈ zTG := zmw_of 814 rfl [812, 813, 53] (by decide +kernel) (by decide +kernel)
theorem zk_X5_judge : zOkC zprog zst zTG zTN ze_X5_judge := zOkC_of (by decide +kernel) [1420] (by decide +kernel) (by decide +kernel) [] (by decide +kernel) (by decide +kernel)
theorem zs_X5_judge : zmside ze_X5_judge = true := by decide +kernel
set_option maxRecDepth 100000 in
theorem zm_X5_judge : ∀ w ∈ zmwords ze_X5_judge, w ∈ zTG := zmw_of 1419 rfl [1417, 1418, 58] (by decide +kernel) (by decide +kernel)
theorem zk_X4_won : zOkC zprog zst zTG zTN ze_X4_won := zOkC_of (by decide +kernel) [815, 277] (by decide +kernel) (by decide +kernel) [] (by decide +kernel) (by decide +kernel)
theorem zs_X4_won : zmside ze_X4_won = true := by decide +kernel
set_option maxRecDepth 100000 in
theorem zm_X4_won : ∀ w ∈ zmwords ze_X4_won, w ∈ zTG := zmw_of 837 rfl [835, 836, 53] (by decide +kernel) (by decide +kernel)
theorem zk_X5_won : zOkC zprog zst zTG zTN ze_X5_won := zOkC_of (by decide +kernel) [1420] (by decide +kernel) (by decide +kernel) [] (by decide +kernel) (by decide +kernel)
theorem zs_X5_won : zmside ze_X5_won = true := by decide +kernel
set_option maxRecDepth 100000 in
theorem zm_X5_won : ∀ w ∈ zmwords ze_X5_won, w ∈ zTG := zmw_of 1435 rfl [1433, 1434, 58] (by decide +kernel) (by decide +kernel)
theorem zk_X5_isBuyer : zOkC zprog zst zTG zTN ze_X5_isBuyer := zOkC_of (by decide +kernel) [963, 1069] (by decide +kernel) (by decide +kernel) [] (by decide +kernel) (by decide +kernel)
theorem zs_X5_isBuyer : zmside ze_X5_isBuyer = true := by decide +kernel
set_option maxRecDepth 100000 in
theorem zm_X5_isBuyer : ∀ w ∈ zmwords ze_X5_isBuyer, w ∈ zTG := zmw_of 1183 rfl [1182, 17, 58] (by decide +kernel) (by decide +kernel)
theorem zk_X4_guess : zOkC zprog zst zTG zTN ze_X4_guess := zOkC_of (by decide +kernel) [274, 274, 277, 242, 91, 242, 786] (by decide +kernel) (by decide +kernel) [] (by decide +kernel) (by decide +kernel)
theorem zs_X4_guess : zmside ze_X4_guess = true := by decide +kernel
set_option maxRecDepth 100000 in
theorem zm_X4_guess : ∀ w ∈ zmwords ze_X4_guess, w ∈ zTG := zmw_of 793 rfl [791, 792, 53] (by decide +kernel) (by decide +kernel)
theorem zk_X5_guess : zOkC zprog zst zTG zTN ze_X5_guess := zOkC_of (by decide +kernel) [1072, 1069, 1069, 1074, 949, 1391] (by decide +kernel) (by decide +kernel) [] (by decide +kernel) (by decide +kernel)
theorem zs_X5_guess : zmside ze_X5_guess = true := by decide +kernel
set_option maxRecDepth 100000 in
theorem zm_X5_guess : ∀ w ∈ zmwords ze_X5_guess, w ∈ zTG := zmw_of 1398 rfl [1396, 1397, 58] (by decide +kernel) (by decide +kernel)
theorem zk_X1_countIn : zOkC zprog zst zTG zTN ze_X1_countIn := zOkC_of (by decide +kernel) [109, 390] (by decide +kernel) (by decide +kernel) [] (by decide +kernel) (by decide +kernel)
theorem zs_X1_countIn : zmside ze_X1_countIn = true := by decide +kernel
set_option maxRecDepth 100000 in
theorem zm_X1_countIn : ∀ w ∈ zmwords ze_X1_countIn, w ∈ zTG := zmw_of 389 rfl [387, 388, 54] (by decide +kernel) (by decide +kernel)
theorem zk_J13_bitCount_95d88 : zOkC zprog zst zTG zTN ze_J13_bitCount_95d88 := zOkC_of (by decide +kernel) [393, 394, 394, 395] (by decide +kernel) (by decide +kernel) [] (by decide +kernel) (by decide +kernel)
theorem zs_J13_bitCount_95d88 : zmside ze_J13_bitCount_95d88 = true := by decide +kernel
set_option maxRecDepth 100000 in
theorem zm_J13_bitCount_95d88 : ∀ w ∈ zmwords ze_J13_bitCount_95d88, w ∈ zTG := zmw_of 392 rfl [391, 61] (by decide +kernel) (by decide +kernel)
theorem zk_X5_noRow : zOkC zprog zst zTG zTN ze_X5_noRow := zOkC_of (by decide +kernel) [1068, 1069, 1074, 940, 940, 1074] (by decide +kernel) (by decide +kernel) [] (by decide +kernel) (by decide +kernel)
theorem zs_X5_noRow : zmside ze_X5_noRow = true := by decide +kernel
set_option maxRecDepth 100000 in
theorem zm_X5_noRow : ∀ w ∈ zmwords ze_X5_noRow, w ∈ zTG := zmw_of 1085 rfl [1084, 7, 58] (by decide +kernel) (by decide +kernel)
theorem zk_X5_inside : zOkC zprog zst zTG zTN ze_X5_inside := zOkC_of (by decide +kernel) [949, 956] (by decide +kernel) (by decide +kernel) [] (by decide +kernel) (by decide +kernel)
theorem zs_X5_inside : zmside ze_X5_inside = true := by decide +kernel
set_option maxRecDepth 100000 in
theorem zm_X5_inside : ∀ w ∈ zmwords ze_X5_inside, w ∈ zTG := zmw_of 1128 rfl [1127, 11, 58] (by decide +kernel) (by decide +kernel)
theorem zk_X1_putAllIn : zOkC zprog zst zTG zTN ze_X1_putAllIn := zOkC_of (by decide +kernel) [89, 109] (by decide +kernel) (by decide +kernel) [] (by decide +kernel) (by decide +kernel)
theorem zs_X1_putAllIn : zmside ze_X1_putAllIn = true := by decide +kernel
set_option maxRecDepth 100000 in
theorem zm_X1_putAllIn : ∀ w ∈ zmwords ze_X1_putAllIn, w ∈ zTG := zmw_of 88 rfl [86, 87, 54] (by decide +kernel) (by decide +kernel)
theorem zk_X1_putSlips : zOkC zprog zst zTG zTN ze_X1_putSlips := zOkC_of (by decide +kernel) [89, 85] (by decide +kernel) (by decide +kernel) [] (by decide +kernel) (by decide +kernel)
theorem zs_X1_putSlips : zmside ze_X1_putSlips = true := by decide +kernel
set_option maxRecDepth 100000 in
theorem zm_X1_putSlips : ∀ w ∈ zmwords ze_X1_putSlips, w ∈ zTG := zmw_of 84 rfl [82, 83, 54] (by decide +kernel) (by decide +kernel)
theorem zk_X5_isThing : zOkC zprog zst zTG zTN ze_X5_isThing := zOkC_of (by decide +kernel) [957, 1069] (by decide +kernel) (by decide +kernel) [] (by decide +kernel) (by decide +kernel)
theorem zs_X5_isThing : zmside ze_X5_isThing = true := by decide +kernel
set_option maxRecDepth 100000 in
theorem zm_X5_isThing : ∀ w ∈ zmwords ze_X5_isThing, w ∈ zTG := zmw_of 1108 rfl [1107, 8, 58] (by decide +kernel) (by decide +kernel)
theorem zk_X4_wins : zOkC zprog zst zTG zTN ze_X4_wins := zOkC_of (by decide +kernel) [242, 425, 277, 242, 637, 242, 666] (by decide +kernel) (by decide +kernel) [] (by decide +kernel) (by decide +kernel)
theorem zs_X4_wins : zmside ze_X4_wins = true := by decide +kernel
set_option maxRecDepth 100000 in
theorem zm_X4_wins : ∀ w ∈ zmwords ze_X4_wins, w ∈ zTG := zmw_of 665 rfl [663, 664, 53] (by decide +kernel) (by decide +kernel)
theorem zk_X5_wins : zOkC zprog zst zTG zTN ze_X5_wins := zOkC_of (by decide +kernel) [949, 1069, 1074, 1296, 1312] (by decide +kernel) (by decide +kernel) [] (by decide +kernel) (by decide +kernel)
theorem zs_X5_wins : zmside ze_X5_wins = true := by decide +kernel
set_option maxRecDepth 100000 in
theorem zm_X5_wins : ∀ w ∈ zmwords ze_X5_wins, w ∈ zTG := zmw_of 1311 rfl [1309, 1310, 58] (by decide +kernel) (by decide +kernel)
theorem zk_X1_init : zOkC zprog zst zTG zTN ze_X1_init := zOkC_of (by decide +kernel) [80, 89, 92, 95, 99, 102, 105, 107, 109, 110, 165, 114, 165, 116, 165, 118, 165, 120, 165, 122, 124, 165, 127, 165, 129, 81] (by decide +kernel) (by decide +kernel) [] (by decide +kernel) (by decide +kernel)
theorem zs_X1_init : zmside ze_X1_init = true := by decide +kernel
set_option maxRecDepth 100000 in
theorem zm_X1_init : ∀ w ∈ zmwords ze_X1_init, w ∈ zTG := zmw_of 79 rfl [78, 54] (by decide +kernel) (by decide +kernel)
theorem zk_X1_wonBySlip : zOkC zprog zst zTG zTN ze_X1_wonBySlip := zOkC_of (by decide +kernel) [441, 642] (by decide +kernel) (by decide +kernel) [] (by decide +kernel) (by decide +kernel)
theorem zs_X1_wonBySlip : zmside ze_X1_wonBySlip = true := by decide +kernel
set_option maxRecDepth 100000 in
theorem zm_X1_wonBySlip : ∀ w ∈ zmwords ze_X1_wonBySlip, w ∈ zTG := zmw_of 669 rfl [667, 668, 54] (by decide +kernel) (by decide +kernel)
theorem zk_X5_winsBy : zOkC zprog zst zTG zTN ze_X5_winsBy := zOkC_of (by decide +kernel) [1159] (by decide +kernel) (by decide +kernel) [] (by decide +kernel) (by decide +kernel)
theorem zs_X5_winsBy : zmside ze_X5_winsBy = true := by decide +kernel
set_option maxRecDepth 100000 in
theorem zm_X5_winsBy : ∀ w ∈ zmwords ze_X5_winsBy, w ∈ zTG := zmw_of 1315 rfl [1314, 35, 58] (by decide +kernel) (by decide +kernel)
theorem zk_X1_takingsAt : zOkC zprog zst zTG zTN ze_X1_takingsAt := zOkC_of (by decide +kernel) [386, 124] (by decide +kernel) (by decide +kernel) [] (by decide +kernel) (by decide +kernel)
theorem zs_X1_takingsAt : zmside ze_X1_takingsAt = true := by decide +kernel
set_option maxRecDepth 100000 in
theorem zm_X1_takingsAt : ∀ w ∈ zmwords ze_X1_takingsAt, w ∈ zTG := zmw_of 775 rfl [773, 774, 54] (by decide +kernel) (by decide +kernel)
theorem zk_X5_takingsAt : zOkC zprog zst zTG zTN ze_X5_takingsAt := zOkC_of (by decide +kernel) [1125, 963] (by decide +kernel) (by decide +kernel) [] (by decide +kernel) (by decide +kernel)
theorem zs_X5_takingsAt : zmside ze_X5_takingsAt = true := by decide +kernel
set_option maxRecDepth 100000 in
theorem zm_X5_takingsAt : ∀ w ∈ zmwords ze_X5_takingsAt, w ∈ zTG := zmw_of 1382 rfl [1381, 43, 58] (by decide +kernel) (by decide +kernel)
theorem zk_X4_status : zOkC zprog zst zTG zTN ze_X4_status := zOkC_of (by decide +kernel) [242, 91, 242, 94, 242, 741, 242, 104, 242, 113, 242, 631, 242, 126, 242, 106, 246, 203, 242, 108, 926, 242, 652, 274, 248] (by decide +kernel) (by decide +kernel) [] (by decide +kernel) (by decide +kernel)
theorem zs_X4_status : zmside ze_X4_status = true := by decide +kernel
set_option maxRecDepth 100000 in
theorem zm_X4_status : ∀ w ∈ zmwords ze_X4_status, w ∈ zTG := zmw_of 925 rfl [923, 924, 53] (by decide +kernel) (by decide +kernel)
