theorem zk_X4_countShelvesInUse : zOkC zprog zst zTG zTN ze_X4_countShelvesInUse := zOkC_of (by decide +kernel) [247, 229] (by decide +kernel) (by decide +kernel) [] (by decide +kernel) (by decide +kernel)
theorem zs_X4_countShelvesInUse : zmside ze_X4_countShelvesInUse = true := by decide +kernel
set_option maxRecDepth 100000 in
theorem zm_X4_countShelvesInUse : ∀ w ∈ zmwords ze_X4_countShelvesInUse, w ∈ zTG := zmw_of 929 rfl [928, 5, 53] (by decide +kernel) (by decide +kernel)
theorem zk_X4_dearest : zOkC zprog zst zTG zTN ze_X4_dearest := zOkC_of (by decide +kernel) [242, 461, 277, 242, 113, 242, 462, 242, 462, 242, 352] (by decide +kernel) (by decide +kernel) [] (by decide +kernel) (by decide +kernel)
theorem zs_X4_dearest : zmside ze_X4_dearest = true := by decide +kernel
set_option maxRecDepth 100000 in
theorem zm_X4_dearest : ∀ w ∈ zmwords ze_X4_dearest, w ∈ zTG := zmw_of 863 rfl [861, 862, 53] (by decide +kernel) (by decide +kernel)
theorem zk_X4_drawable : zOkC zprog zst zTG zTN ze_X4_drawable := zOkC_of (by decide +kernel) [242, 652] (by decide +kernel) (by decide +kernel) [] (by decide +kernel) (by decide +kernel)
theorem zs_X4_drawable : zmside ze_X4_drawable = true := by decide +kernel
set_option maxRecDepth 100000 in
theorem zm_X4_drawable : ∀ w ∈ zmwords ze_X4_drawable, w ∈ zTG := zmw_of 651 rfl [649, 650, 53] (by decide +kernel) (by decide +kernel)
theorem zk_X4_element : zOkC zprog zst zTG zTN ze_X4_element := zOkC_of (by decide +kernel) [271, 247, 298, 247, 233] (by decide +kernel) (by decide +kernel) [] (by decide +kernel) (by decide +kernel)
theorem zs_X4_element : zmside ze_X4_element = true := by decide +kernel
set_option maxRecDepth 100000 in
theorem zm_X4_element : ∀ w ∈ zmwords ze_X4_element, w ∈ zTG := zmw_of 326 rfl [324, 325, 53] (by decide +kernel) (by decide +kernel)
theorem zk_X4_envy : zOkC zprog zst zTG zTN ze_X4_envy := zOkC_of (by decide +kernel) [242, 126, 242, 242, 626, 627, 242, 126, 242, 242, 626, 627] (by decide +kernel) (by decide +kernel) [] (by decide +kernel) (by decide +kernel)
theorem zs_X4_envy : zmside ze_X4_envy = true := by decide +kernel
set_option maxRecDepth 100000 in
theorem zm_X4_envy : ∀ w ∈ zmwords ze_X4_envy, w ∈ zTG := zmw_of 871 rfl [869, 870, 53] (by decide +kernel) (by decide +kernel)
theorem zk_X4_feed : zOkC zprog zst zTG zTN ze_X4_feed := zOkC_of (by decide +kernel) [274, 277, 246, 203, 277, 246, 201, 246, 203, 246, 203, 203, 246, 203] (by decide +kernel) (by decide +kernel) [] (by decide +kernel) (by decide +kernel)
theorem zs_X4_feed : zmside ze_X4_feed = true := by decide +kernel
set_option maxRecDepth 100000 in
theorem zm_X4_feed : ∀ w ∈ zmwords ze_X4_feed, w ∈ zTG := zmw_of 474 rfl [472, 473, 53] (by decide +kernel) (by decide +kernel)
theorem zk_X4_fete : zOkC zprog zst zTG zTN ze_X4_fete := zOkC_of (by decide +kernel) [274, 242, 906, 277] (by decide +kernel) (by decide +kernel) [] (by decide +kernel) (by decide +kernel)
theorem zs_X4_fete : zmside ze_X4_fete = true := by decide +kernel
set_option maxRecDepth 100000 in
theorem zm_X4_fete : ∀ w ∈ zmwords ze_X4_fete, w ∈ zTG := zmw_of 905 rfl [903, 904, 53] (by decide +kernel) (by decide +kernel)
theorem zk_X4_firstWrong : zOkC zprog zst zTG zTN ze_X4_firstWrong := zOkC_of (by decide +kernel) [244, 242, 483, 271, 247, 823, 244, 637, 244, 829] (by decide +kernel) (by decide +kernel) [] (by decide +kernel) (by decide +kernel)
theorem zs_X4_firstWrong : zmside ze_X4_firstWrong = true := by decide +kernel
set_option maxRecDepth 100000 in
theorem zm_X4_firstWrong : ∀ w ∈ zmwords ze_X4_firstWrong, w ∈ zTG := zmw_of 822 rfl [821, 4, 53] (by decide +kernel) (by decide +kernel)
theorem zk_X4_five : zOkC zprog zst zTG zTN ze_X4_five := zOkC_of (by decide +kernel) [242, 461, 277, 242, 128, 242, 101, 242, 652, 277, 242, 631, 242, 242, 101, 842, 242, 652, 242, 242, 884, 829, 242, 631] (by decide +kernel) (by decide +kernel) [] (by decide +kernel) (by decide +kernel)
theorem zs_X4_five : zmside ze_X4_five = true := by decide +kernel
set_option maxRecDepth 100000 in
theorem zm_X4_five : ∀ w ∈ zmwords ze_X4_five, w ∈ zTG := zmw_of 897 rfl [895, 896, 53] (by decide +kernel) (by decide +kernel)
theorem zk_X4_fondest : zOkC zprog zst zTG zTN ze_X4_fondest := zOkC_of (by decide +kernel) [242, 335, 277, 242, 126, 277, 242, 126, 242, 462, 242, 462] (by decide +kernel) (by decide +kernel) [] (by decide +kernel) (by decide +kernel)
theorem zs_X4_fondest : zmside ze_X4_fondest = true := by decide +kernel
set_option maxRecDepth 100000 in
theorem zm_X4_fondest : ∀ w ∈ zmwords ze_X4_fondest, w ∈ zTG := zmw_of 867 rfl [865, 866, 53] (by decide +kernel) (by decide +kernel)
theorem zk_X4_full : zOkC zprog zst zTG zTN ze_X4_full := zOkC_of (by decide +kernel) [242, 242, 741, 786] (by decide +kernel) (by decide +kernel) [] (by decide +kernel) (by decide +kernel)
theorem zs_X4_full : zmside ze_X4_full = true := by decide +kernel
set_option maxRecDepth 100000 in
theorem zm_X4_full : ∀ w ∈ zmwords ze_X4_full, w ∈ zTG := zmw_of 785 rfl [783, 784, 53] (by decide +kernel) (by decide +kernel)
theorem zk_X4_go : zOkC zprog zst zTG zTN ze_X4_go := zOkC_of (by decide +kernel) [242, 461, 277, 242, 128, 242, 98, 242, 652, 277, 242, 242, 98, 842, 242, 884, 242, 829] (by decide +kernel) (by decide +kernel) [] (by decide +kernel) (by decide +kernel)
theorem zs_X4_go : zmside ze_X4_go = true := by decide +kernel
set_option maxRecDepth 100000 in
theorem zm_X4_go : ∀ w ∈ zmwords ze_X4_go, w ∈ zTG := zmw_of 883 rfl [881, 882, 53] (by decide +kernel) (by decide +kernel)
theorem zk_X4_guess : zOkC zprog zst zTG zTN ze_X4_guess := zOkC_of (by decide +kernel) [274, 274, 277, 242, 91, 242, 786, 277] (by decide +kernel) (by decide +kernel) [] (by decide +kernel) (by decide +kernel)
theorem zs_X4_guess : zmside ze_X4_guess = true := by decide +kernel
set_option maxRecDepth 100000 in
theorem zm_X4_guess : ∀ w ∈ zmwords ze_X4_guess, w ∈ zTG := zmw_of 793 rfl [791, 792, 53] (by decide +kernel) (by decide +kernel)
theorem zk_X4_holds : zOkC zprog zst zTG zTN ze_X4_holds := zOkC_of (by decide +kernel) [271, 247, 229] (by decide +kernel) (by decide +kernel) [] (by decide +kernel) (by decide +kernel)
theorem zs_X4_holds : zmside ze_X4_holds = true := by decide +kernel
set_option maxRecDepth 100000 in
theorem zm_X4_holds : ∀ w ∈ zmwords ze_X4_holds, w ∈ zTG := zmw_of 330 rfl [328, 329, 53] (by decide +kernel) (by decide +kernel)
theorem zk_X4_image : zOkC zprog zst zTG zTN ze_X4_image := zOkC_of (by decide +kernel) [243, 242, 483, 249] (by decide +kernel) (by decide +kernel) [] (by decide +kernel) (by decide +kernel)
theorem zs_X4_image : zmside ze_X4_image = true := by decide +kernel
set_option maxRecDepth 100000 in
theorem zm_X4_image : ∀ w ∈ zmwords ze_X4_image, w ∈ zTG := zmw_of 917 rfl [915, 916, 53] (by decide +kernel) (by decide +kernel)
theorem zk_X4_init : zOkC zprog zst zTG zTN ze_X4_init := zOkC_of (by decide +kernel) [72, 75, 76, 54, 77, 242, 75, 76, 54, 77, 243, 75, 76, 54, 77, 244, 166, 167, 55, 245, 194, 195, 56, 246, 221, 247, 165, 248, 249, 247, 221, 223, 57] (by decide +kernel) (by decide +kernel) [168, 196, 224] (by decide +kernel) (by decide +kernel)
theorem zs_X4_init : zmside ze_X4_init = true := by decide +kernel
set_option maxRecDepth 100000 in
theorem zm_X4_init : ∀ w ∈ zmwords ze_X4_init, w ∈ zTG := zmw_of 71 rfl [70, 53] (by decide +kernel) (by decide +kernel)
theorem zk_X4_judge : zOkC zprog zst zTG zTN ze_X4_judge := zOkC_of (by decide +kernel) [815, 277, 819] (by decide +kernel) (by decide +kernel) [] (by decide +kernel) (by decide +kernel)
theorem zs_X4_judge : zmside ze_X4_judge = true := by decide +kernel
set_option maxRecDepth 100000 in
theorem zm_X4_judge : ∀ w ∈ zmwords ze_X4_judge, w ∈ zTG := zmw_of 814 rfl [812, 813, 53] (by decide +kernel) (by decide +kernel)
theorem zk_X4_lackOfBook : zOkC zprog zst zTG zTN ze_X4_lackOfBook := zOkC_of (by decide +kernel) [271, 274, 247, 289, 247, 231] (by decide +kernel) (by decide +kernel) [] (by decide +kernel) (by decide +kernel)
theorem zs_X4_lackOfBook : zmside ze_X4_lackOfBook = true := by decide +kernel
set_option maxRecDepth 100000 in
theorem zm_X4_lackOfBook : ∀ w ∈ zmwords ze_X4_lackOfBook, w ∈ zTG := zmw_of 818 rfl [817, 3, 53] (by decide +kernel) (by decide +kernel)
theorem zk_X4_lackOfRows : zOkC zprog zst zTG zTN ze_X4_lackOfRows := zOkC_of (by decide +kernel) [289, 289, 229, 229] (by decide +kernel) (by decide +kernel) [] (by decide +kernel) (by decide +kernel)
theorem zs_X4_lackOfRows : zmside ze_X4_lackOfRows = true := by decide +kernel
set_option maxRecDepth 100000 in
theorem zm_X4_lackOfRows : ∀ w ∈ zmwords ze_X4_lackOfRows, w ∈ zTG := zmw_of 315 rfl [314, 53] (by decide +kernel) (by decide +kernel)
theorem zk_X4_left : zOkC zprog zst zTG zTN ze_X4_left := zOkC_of (by decide +kernel) [242, 741, 274, 277, 242, 631, 242, 810, 242, 810, 277, 742] (by decide +kernel) (by decide +kernel) [] (by decide +kernel) (by decide +kernel)
theorem zs_X4_left : zmside ze_X4_left = true := by decide +kernel
set_option maxRecDepth 100000 in
theorem zm_X4_left : ∀ w ∈ zmwords ze_X4_left, w ∈ zTG := zmw_of 809 rfl [807, 808, 53] (by decide +kernel) (by decide +kernel)
theorem zk_X4_likes : zOkC zprog zst zTG zTN ze_X4_likes := zOkC_of (by decide +kernel) [242, 461, 242, 335, 274, 277, 242, 462, 242, 463] (by decide +kernel) (by decide +kernel) [] (by decide +kernel) (by decide +kernel)
theorem zs_X4_likes : zmside ze_X4_likes = true := by decide +kernel
set_option maxRecDepth 100000 in
theorem zm_X4_likes : ∀ w ∈ zmwords ze_X4_likes, w ∈ zTG := zmw_of 460 rfl [458, 459, 53] (by decide +kernel) (by decide +kernel)
theorem zk_X4_mean : zOkC zprog zst zTG zTN ze_X4_mean := zOkC_of (by decide +kernel) [242, 461, 274, 277, 752] (by decide +kernel) (by decide +kernel) [] (by decide +kernel) (by decide +kernel)
theorem zs_X4_mean : zmside ze_X4_mean = true := by decide +kernel
set_option maxRecDepth 100000 in
theorem zm_X4_mean : ∀ w ∈ zmwords ze_X4_mean, w ∈ zTG := zmw_of 763 rfl [761, 762, 53] (by decide +kernel) (by decide +kernel)
theorem zk_X4_meanOfGoes : zOkC zprog zst zTG zTN ze_X4_meanOfGoes := zOkC_of (by decide +kernel) [245, 242, 756, 245, 733] (by decide +kernel) (by decide +kernel) [] (by decide +kernel) (by decide +kernel)
theorem zs_X4_meanOfGoes : zmside ze_X4_meanOfGoes = true := by decide +kernel
set_option maxRecDepth 100000 in
theorem zm_X4_meanOfGoes : ∀ w ∈ zmwords ze_X4_meanOfGoes, w ∈ zTG := zmw_of 755 rfl [754, 2, 53] (by decide +kernel) (by decide +kernel)
theorem zk_X4_oldest : zOkC zprog zst zTG zTN ze_X4_oldest := zOkC_of (by decide +kernel) [242, 113, 277, 242, 113, 242, 121, 242, 121] (by decide +kernel) (by decide +kernel) [] (by decide +kernel) (by decide +kernel)
theorem zs_X4_oldest : zmside ze_X4_oldest = true := by decide +kernel
set_option maxRecDepth 100000 in
theorem zm_X4_oldest : ∀ w ∈ zmwords ze_X4_oldest, w ∈ zTG := zmw_of 879 rfl [877, 878, 53] (by decide +kernel) (by decide +kernel)
theorem zk_X4_plan : zOkC zprog zst zTG zTN ze_X4_plan := zOkC_of (by decide +kernel) [242, 461, 277, 245, 242, 686, 245, 733] (by decide +kernel) (by decide +kernel) [] (by decide +kernel) (by decide +kernel)
theorem zs_X4_plan : zmside ze_X4_plan = true := by decide +kernel
set_option maxRecDepth 100000 in
theorem zm_X4_plan : ∀ w ∈ zmwords ze_X4_plan, w ∈ zTG := zmw_of 685 rfl [683, 684, 53] (by decide +kernel) (by decide +kernel)
theorem zk_X4_plays : zOkC zprog zst zTG zTN ze_X4_plays := zOkC_of (by decide +kernel) [242, 461, 277, 245, 242, 686, 242, 128, 242, 98, 245, 242, 631, 743, 242, 242, 98, 842, 242, 242, 884, 829] (by decide +kernel) (by decide +kernel) [] (by decide +kernel) (by decide +kernel)
theorem zs_X4_plays : zmside ze_X4_plays = true := by decide +kernel
set_option maxRecDepth 100000 in
theorem zm_X4_plays : ∀ w ∈ zmwords ze_X4_plays, w ∈ zTG := zmw_of 901 rfl [899, 900, 53] (by decide +kernel) (by decide +kernel)
theorem zk_X4_poorest : zOkC zprog zst zTG zTN ze_X4_poorest := zOkC_of (by decide +kernel) [242, 126, 277, 242, 126, 242, 128, 242, 128] (by decide +kernel) (by decide +kernel) [] (by decide +kernel) (by decide +kernel)
theorem zs_X4_poorest : zmside ze_X4_poorest = true := by decide +kernel
set_option maxRecDepth 100000 in
theorem zm_X4_poorest : ∀ w ∈ zmwords ze_X4_poorest, w ∈ zTG := zmw_of 875 rfl [873, 874, 53] (by decide +kernel) (by decide +kernel)
theorem zk_X4_price : zOkC zprog zst zTG zTN ze_X4_price := zOkC_of (by decide +kernel) [274, 242, 98, 242, 98, 274, 242, 101, 242, 101, 277] (by decide +kernel) (by decide +kernel) [] (by decide +kernel) (by decide +kernel)
theorem zs_X4_price : zmside ze_X4_price = true := by decide +kernel
set_option maxRecDepth 100000 in
theorem zm_X4_price : ∀ w ∈ zmwords ze_X4_price, w ∈ zTG := zmw_of 420 rfl [418, 419, 53] (by decide +kernel) (by decide +kernel)
theorem zk_X4_purse : zOkC zprog zst zTG zTN ze_X4_purse := zOkC_of (by decide +kernel) [242, 461, 274, 277, 242, 128, 242, 128] (by decide +kernel) (by decide +kernel) [] (by decide +kernel) (by decide +kernel)
theorem zs_X4_purse : zmside ze_X4_purse = true := by decide +kernel
set_option maxRecDepth 100000 in
theorem zm_X4_purse : ∀ w ∈ zmwords ze_X4_purse, w ∈ zTG := zmw_of 470 rfl [468, 469, 53] (by decide +kernel) (by decide +kernel)
theorem zk_X4_refuse : zOkC zprog zst zTG zTN ze_X4_refuse := zOkC_of (by decide +kernel) [274, 248] (by decide +kernel) (by decide +kernel) [] (by decide +kernel) (by decide +kernel)
theorem zs_X4_refuse : zmside ze_X4_refuse = true := by decide +kernel
set_option maxRecDepth 100000 in
theorem zm_X4_refuse : ∀ w ∈ zmwords ze_X4_refuse, w ∈ zTG := zmw_of 280 rfl [279, 0, 53] (by decide +kernel) (by decide +kernel)
theorem zk_X4_row : zOkC zprog zst zTG zTN ze_X4_row := zOkC_of (by decide +kernel) [271, 274, 274, 277, 247, 281] (by decide +kernel) (by decide +kernel) [] (by decide +kernel) (by decide +kernel)
theorem zs_X4_row : zmside ze_X4_row = true := by decide +kernel
set_option maxRecDepth 100000 in
theorem zm_X4_row : ∀ w ∈ zmwords ze_X4_row, w ∈ zTG := zmw_of 270 rfl [268, 269, 53] (by decide +kernel) (by decide +kernel)
theorem zk_X4_rule : zOkC zprog zst zTG zTN ze_X4_rule := zOkC_of (by decide +kernel) [274, 277, 242, 113, 277, 242, 94, 242, 94] (by decide +kernel) (by decide +kernel) [] (by decide +kernel) (by decide +kernel)
theorem zs_X4_rule : zmside ze_X4_rule = true := by decide +kernel
set_option maxRecDepth 100000 in
theorem zm_X4_rule : ∀ w ∈ zmwords ze_X4_rule, w ∈ zTG := zmw_of 416 rfl [414, 415, 53] (by decide +kernel) (by decide +kernel)
theorem zk_X4_says : zOkC zprog zst zTG zTN ze_X4_says := zOkC_of (by decide +kernel) [271, 274, 277, 247, 229, 277, 229, 242, 335, 242, 115, 343, 277, 348] (by decide +kernel) (by decide +kernel) [] (by decide +kernel) (by decide +kernel)
theorem zs_X4_says : zmside ze_X4_says = true := by decide +kernel
set_option maxRecDepth 100000 in
theorem zm_X4_says : ∀ w ∈ zmwords ze_X4_says, w ∈ zTG := zmw_of 342 rfl [340, 341, 53] (by decide +kernel) (by decide +kernel)
theorem zk_X4_seed : zOkC zprog zst zTG zTN ze_X4_seed := zOkC_of (by decide +kernel) [242, 108, 242, 108] (by decide +kernel) (by decide +kernel) [] (by decide +kernel) (by decide +kernel)
theorem zs_X4_seed : zmside ze_X4_seed = true := by decide +kernel
set_option maxRecDepth 100000 in
theorem zm_X4_seed : ∀ w ∈ zmwords ze_X4_seed, w ∈ zTG := zmw_of 913 rfl [911, 912, 53] (by decide +kernel) (by decide +kernel)
theorem zk_X4_set : zOkC zprog zst zTG zTN ze_X4_set := zOkC_of (by decide +kernel) [271, 277, 247, 289, 277, 298, 277, 233, 302] (by decide +kernel) (by decide +kernel) [] (by decide +kernel) (by decide +kernel)
theorem zs_X4_set : zmside ze_X4_set = true := by decide +kernel
set_option maxRecDepth 100000 in
theorem zm_X4_set : ∀ w ∈ zmwords ze_X4_set, w ∈ zTG := zmw_of 288 rfl [286, 287, 53] (by decide +kernel) (by decide +kernel)
theorem zk_X4_show : zOkC zprog zst zTG zTN ze_X4_show := zOkC_of (by decide +kernel) [271, 242, 335, 277, 247, 229] (by decide +kernel) (by decide +kernel) [] (by decide +kernel) (by decide +kernel)
theorem zs_X4_show : zmside ze_X4_show = true := by decide +kernel
set_option maxRecDepth 100000 in
theorem zm_X4_show : ∀ w ∈ zmwords ze_X4_show, w ∈ zTG := zmw_of 334 rfl [332, 333, 53] (by decide +kernel) (by decide +kernel)
theorem zk_X4_slipOf : zOkC zprog zst zTG zTN ze_X4_slipOf := zOkC_of (by decide +kernel) [242, 425, 277, 242, 636, 357, 242, 429, 357, 242, 637, 357, 242, 647, 277] (by decide +kernel) (by decide +kernel) [] (by decide +kernel) (by decide +kernel)
theorem zs_X4_slipOf : zmside ze_X4_slipOf = true := by decide +kernel
set_option maxRecDepth 100000 in
theorem zm_X4_slipOf : ∀ w ∈ zmwords ze_X4_slipOf, w ∈ zTG := zmw_of 635 rfl [633, 634, 53] (by decide +kernel) (by decide +kernel)
theorem zk_X4_slips : zOkC zprog zst zTG zTN ze_X4_slips := zOkC_of (by decide +kernel) [274, 277, 242, 113, 277, 242, 91, 242, 412] (by decide +kernel) (by decide +kernel) [] (by decide +kernel) (by decide +kernel)
theorem zs_X4_slips : zmside ze_X4_slips = true := by decide +kernel
set_option maxRecDepth 100000 in
theorem zm_X4_slips : ∀ w ∈ zmwords ze_X4_slips, w ∈ zTG := zmw_of 411 rfl [409, 410, 53] (by decide +kernel) (by decide +kernel)
theorem zk_X4_stall : zOkC zprog zst zTG zTN ze_X4_stall := zOkC_of (by decide +kernel) [244, 242, 483, 246, 244, 488, 246, 203, 277, 242, 244, 483] (by decide +kernel) (by decide +kernel) [] (by decide +kernel) (by decide +kernel)
theorem zs_X4_stall : zmside ze_X4_stall = true := by decide +kernel
set_option maxRecDepth 100000 in
theorem zm_X4_stall : ∀ w ∈ zmwords ze_X4_stall, w ∈ zTG := zmw_of 482 rfl [480, 481, 53] (by decide +kernel) (by decide +kernel)
theorem zk_X4_status : zOkC zprog zst zTG zTN ze_X4_status := zOkC_of (by decide +kernel) [242, 91, 242, 94, 242, 741, 242, 104, 242, 113, 242, 631, 242, 126, 242, 106, 246, 203, 242, 108, 926, 242, 652, 274, 248] (by decide +kernel) (by decide +kernel) [] (by decide +kernel) (by decide +kernel)
theorem zs_X4_status : zmside ze_X4_status = true := by decide +kernel
set_option maxRecDepth 100000 in
theorem zm_X4_status : ∀ w ∈ zmwords ze_X4_status, w ∈ zTG := zmw_of 925 rfl [923, 924, 53] (by decide +kernel) (by decide +kernel)
theorem zk_X4_sure : zOkC zprog zst zTG zTN ze_X4_sure := zOkC_of (by decide +kernel) [274, 801, 274, 277, 798] (by decide +kernel) (by decide +kernel) [] (by decide +kernel) (by decide +kernel)
theorem zs_X4_sure : zmside ze_X4_sure = true := by decide +kernel
set_option maxRecDepth 100000 in
theorem zm_X4_sure : ∀ w ∈ zmwords ze_X4_sure, w ∈ zTG := zmw_of 805 rfl [803, 804, 53] (by decide +kernel) (by decide +kernel)
theorem zk_X4_sureness : zOkC zprog zst zTG zTN ze_X4_sureness := zOkC_of (by decide +kernel) [801] (by decide +kernel) (by decide +kernel) [] (by decide +kernel) (by decide +kernel)
theorem zs_X4_sureness : zmside ze_X4_sureness = true := by decide +kernel
set_option maxRecDepth 100000 in
theorem zm_X4_sureness : ∀ w ∈ zmwords ze_X4_sureness, w ∈ zTG := zmw_of 800 rfl [799, 53] (by decide +kernel) (by decide +kernel)
theorem zk_X4_suspect : zOkC zprog zst zTG zTN ze_X4_suspect := zOkC_of (by decide +kernel) [274, 274, 277, 798] (by decide +kernel) (by decide +kernel) [] (by decide +kernel) (by decide +kernel)
theorem zs_X4_suspect : zmside ze_X4_suspect = true := by decide +kernel
set_option maxRecDepth 100000 in
theorem zm_X4_suspect : ∀ w ∈ zmwords ze_X4_suspect, w ∈ zTG := zmw_of 797 rfl [795, 796, 53] (by decide +kernel) (by decide +kernel)
theorem zk_X4_takings : zOkC zprog zst zTG zTN ze_X4_takings := zOkC_of (by decide +kernel) [274, 242, 772, 277] (by decide +kernel) (by decide +kernel) [] (by decide +kernel) (by decide +kernel)
theorem zs_X4_takings : zmside ze_X4_takings = true := by decide +kernel
set_option maxRecDepth 100000 in
theorem zm_X4_takings : ∀ w ∈ zmwords ze_X4_takings, w ∈ zTG := zmw_of 771 rfl [769, 770, 53] (by decide +kernel) (by decide +kernel)
theorem zk_X4_thing : zOkC zprog zst zTG zTN ze_X4_thing := zOkC_of (by decide +kernel) [274, 274, 242, 425, 242, 429, 277, 242, 433, 277, 242, 113, 277, 242, 445] (by decide +kernel) (by decide +kernel) [] (by decide +kernel) (by decide +kernel)
theorem zs_X4_thing : zmside ze_X4_thing = true := by decide +kernel
set_option maxRecDepth 100000 in
theorem zm_X4_thing : ∀ w ∈ zmwords ze_X4_thing, w ∈ zTG := zmw_of 424 rfl [422, 423, 53] (by decide +kernel) (by decide +kernel)
theorem zk_X4_thingOf : zOkC zprog zst zTG zTN ze_X4_thingOf := zOkC_of (by decide +kernel) [242, 335, 277, 242, 115, 242, 117, 242, 119, 242, 121, 242, 123, 242, 461, 277, 242, 462] (by decide +kernel) (by decide +kernel) [] (by decide +kernel) (by decide +kernel)
theorem zs_X4_thingOf : zmside ze_X4_thingOf = true := by decide +kernel
set_option maxRecDepth 100000 in
theorem zm_X4_thingOf : ∀ w ∈ zmwords ze_X4_thingOf, w ∈ zTG := zmw_of 621 rfl [619, 620, 53] (by decide +kernel) (by decide +kernel)
theorem zk_X4_till : zOkC zprog zst zTG zTN ze_X4_till := zOkC_of (by decide +kernel) [242, 461, 277, 245, 242, 686, 242, 631, 242, 741, 742, 245, 743] (by decide +kernel) (by decide +kernel) [] (by decide +kernel) (by decide +kernel)
theorem zs_X4_till : zmside ze_X4_till = true := by decide +kernel
set_option maxRecDepth 100000 in
theorem zm_X4_till : ∀ w ∈ zmwords ze_X4_till, w ∈ zTG := zmw_of 740 rfl [738, 739, 53] (by decide +kernel) (by decide +kernel)
theorem zk_X4_wins : zOkC zprog zst zTG zTN ze_X4_wins := zOkC_of (by decide +kernel) [242, 425, 277, 242, 637, 277, 242, 666] (by decide +kernel) (by decide +kernel) [] (by decide +kernel) (by decide +kernel)
theorem zs_X4_wins : zmside ze_X4_wins = true := by decide +kernel
set_option maxRecDepth 100000 in
theorem zm_X4_wins : ∀ w ∈ zmwords ze_X4_wins, w ∈ zTG := zmw_of 665 rfl [663, 664, 53] (by decide +kernel) (by decide +kernel)
theorem zk_X4_wipe : zOkC zprog zst zTG zTN ze_X4_wipe := zOkC_of (by decide +kernel) [246, 203, 246, 203] (by decide +kernel) (by decide +kernel) [] (by decide +kernel) (by decide +kernel)
theorem zs_X4_wipe : zmside ze_X4_wipe = true := by decide +kernel
set_option maxRecDepth 100000 in
theorem zm_X4_wipe : ∀ w ∈ zmwords ze_X4_wipe, w ∈ zTG := zmw_of 478 rfl [476, 477, 53] (by decide +kernel) (by decide +kernel)
theorem zk_X4_won : zOkC zprog zst zTG zTN ze_X4_won := zOkC_of (by decide +kernel) [815, 277, 819, 277, 242, 631, 244, 631] (by decide +kernel) (by decide +kernel) [] (by decide +kernel) (by decide +kernel)
theorem zs_X4_won : zmside ze_X4_won = true := by decide +kernel
set_option maxRecDepth 100000 in
theorem zm_X4_won : ∀ w ∈ zmwords ze_X4_won, w ∈ zTG := zmw_of 837 rfl [835, 836, 53] (by decide +kernel) (by decide +kernel)
