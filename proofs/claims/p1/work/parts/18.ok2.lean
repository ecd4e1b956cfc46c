theorem zk_X4_plan : zOkC zprog zst zTG zTN ze_X4_plan := zOkC_of (by decide +kernel) [242, 461, 277] (by decide +kernel) (by decide +kernel) [] (by decide +kernel) (by decide +kernel)
theorem zs_X4_plan : zmside ze_X4_plan = true := by decide +kernel
set_option maxRecDepth 100000 in
theorem zm_X4_plan : ∀ w ∈ zmwords ze_X4_plan, w ∈ zTG := zmw_of 685 rfl [683, 684, 53] (by decide +kernel) (by decide +kernel)
theorem zk_X5_plan : zOkC zprog zst zTG zTN ze_X5_plan := zOkC_of (by decide +kernel) [1180, 1074] (by decide +kernel) (by decide +kernel) [] (by decide +kernel) (by decide +kernel)
theorem zs_X5_plan : zmside ze_X5_plan = true := by decide +kernel
set_option maxRecDepth 100000 in
theorem zm_X5_plan : ∀ w ∈ zmwords ze_X5_plan, w ∈ zTG := zmw_of 1331 rfl [1329, 1330, 58] (by decide +kernel) (by decide +kernel)
theorem zk_X4_till : zOkC zprog zst zTG zTN ze_X4_till := zOkC_of (by decide +kernel) [242, 461, 277] (by decide +kernel) (by decide +kernel) [] (by decide +kernel) (by decide +kernel)
theorem zs_X4_till : zmside ze_X4_till = true := by decide +kernel
set_option maxRecDepth 100000 in
theorem zm_X4_till : ∀ w ∈ zmwords ze_X4_till, w ∈ zTG := zmw_of 740 rfl [738, 739, 53] (by decide +kernel) (by decide +kernel)
theorem zk_X5_till : zOkC zprog zst zTG zTN ze_X5_till := zOkC_of (by decide +kernel) [1180, 1074] (by decide +kernel) (by decide +kernel) [] (by decide +kernel) (by decide +kernel)
theorem zs_X5_till : zmside ze_X5_till = true := by decide +kernel
set_option maxRecDepth 100000 in
theorem zm_X5_till : ∀ w ∈ zmwords ze_X5_till, w ∈ zTG := zmw_of 1356 rfl [1354, 1355, 58] (by decide +kernel) (by decide +kernel)
theorem zk_X4_atOnce : zOkC zprog zst zTG zTN ze_X4_atOnce := zOkC_of (by decide +kernel) [242, 461, 751, 277] (by decide +kernel) (by decide +kernel) [] (by decide +kernel) (by decide +kernel)
theorem zs_X4_atOnce : zmside ze_X4_atOnce = true := by decide +kernel
set_option maxRecDepth 100000 in
theorem zm_X4_atOnce : ∀ w ∈ zmwords ze_X4_atOnce, w ∈ zTG := zmw_of 750 rfl [748, 749, 53] (by decide +kernel) (by decide +kernel)
theorem zk_X5_atOnce : zOkC zprog zst zTG zTN ze_X5_atOnce := zOkC_of (by decide +kernel) [1180, 1370, 1074] (by decide +kernel) (by decide +kernel) [] (by decide +kernel) (by decide +kernel)
theorem zs_X5_atOnce : zmside ze_X5_atOnce = true := by decide +kernel
set_option maxRecDepth 100000 in
theorem zm_X5_atOnce : ∀ w ∈ zmwords ze_X5_atOnce, w ∈ zTG := zmw_of 1369 rfl [1367, 1368, 58] (by decide +kernel) (by decide +kernel)
theorem zk_X4_mean : zOkC zprog zst zTG zTN ze_X4_mean := zOkC_of (by decide +kernel) [242, 461, 277] (by decide +kernel) (by decide +kernel) [] (by decide +kernel) (by decide +kernel)
theorem zs_X4_mean : zmside ze_X4_mean = true := by decide +kernel
set_option maxRecDepth 100000 in
theorem zm_X4_mean : ∀ w ∈ zmwords ze_X4_mean, w ∈ zTG := zmw_of 763 rfl [761, 762, 53] (by decide +kernel) (by decide +kernel)
theorem zk_X5_mean : zOkC zprog zst zTG zTN ze_X5_mean := zOkC_of (by decide +kernel) [1180, 1074] (by decide +kernel) (by decide +kernel) [] (by decide +kernel) (by decide +kernel)
theorem zs_X5_mean : zmside ze_X5_mean = true := by decide +kernel
set_option maxRecDepth 100000 in
theorem zm_X5_mean : ∀ w ∈ zmwords ze_X5_mean, w ∈ zTG := zmw_of 1360 rfl [1358, 1359, 58] (by decide +kernel) (by decide +kernel)
theorem zk_X4_all : zOkC zprog zst zTG zTN ze_X4_all := zOkC_of (by decide +kernel) [242, 461, 751, 277] (by decide +kernel) (by decide +kernel) [] (by decide +kernel) (by decide +kernel)
theorem zs_X4_all : zmside ze_X4_all = true := by decide +kernel
set_option maxRecDepth 100000 in
theorem zm_X4_all : ∀ w ∈ zmwords ze_X4_all, w ∈ zTG := zmw_of 767 rfl [765, 766, 53] (by decide +kernel) (by decide +kernel)
theorem zk_X5_all : zOkC zprog zst zTG zTN ze_X5_all := zOkC_of (by decide +kernel) [1180, 1370, 1074] (by decide +kernel) (by decide +kernel) [] (by decide +kernel) (by decide +kernel)
theorem zs_X5_all : zmside ze_X5_all = true := by decide +kernel
set_option maxRecDepth 100000 in
theorem zm_X5_all : ∀ w ∈ zmwords ze_X5_all, w ∈ zTG := zmw_of 1374 rfl [1372, 1373, 58] (by decide +kernel) (by decide +kernel)
theorem zk_X1_thingsUnder : zOkC zprog zst zTG zTN ze_X1_thingsUnder := zOkC_of (by decide +kernel) [110] (by decide +kernel) (by decide +kernel) [] (by decide +kernel) (by decide +kernel)
theorem zs_X1_thingsUnder : zmside ze_X1_thingsUnder = true := by decide +kernel
set_option maxRecDepth 100000 in
theorem zm_X1_thingsUnder : ∀ w ∈ zmwords ze_X1_thingsUnder, w ∈ zTG := zmw_of 373 rfl [371, 372, 54] (by decide +kernel) (by decide +kernel)
theorem zk_X4_chain : zOkC zprog zst zTG zTN ze_X4_chain := zOkC_of (by decide +kernel) [242, 335, 277] (by decide +kernel) (by decide +kernel) [] (by decide +kernel) (by decide +kernel)
theorem zs_X4_chain : zmside ze_X4_chain = true := by decide +kernel
set_option maxRecDepth 100000 in
theorem zm_X4_chain : ∀ w ∈ zmwords ze_X4_chain, w ∈ zTG := zmw_of 849 rfl [847, 848, 53] (by decide +kernel) (by decide +kernel)
theorem zk_X5_chain : zOkC zprog zst zTG zTN ze_X5_chain := zOkC_of (by decide +kernel) [1105, 1074] (by decide +kernel) (by decide +kernel) [] (by decide +kernel) (by decide +kernel)
theorem zs_X5_chain : zmside ze_X5_chain = true := by decide +kernel
set_option maxRecDepth 100000 in
theorem zm_X5_chain : ∀ w ∈ zmwords ze_X5_chain, w ∈ zTG := zmw_of 1443 rfl [1441, 1442, 58] (by decide +kernel) (by decide +kernel)
theorem zk_X4_dearest : zOkC zprog zst zTG zTN ze_X4_dearest := zOkC_of (by decide +kernel) [242, 461, 277] (by decide +kernel) (by decide +kernel) [] (by decide +kernel) (by decide +kernel)
theorem zs_X4_dearest : zmside ze_X4_dearest = true := by decide +kernel
set_option maxRecDepth 100000 in
theorem zm_X4_dearest : ∀ w ∈ zmwords ze_X4_dearest, w ∈ zTG := zmw_of 863 rfl [861, 862, 53] (by decide +kernel) (by decide +kernel)
theorem zk_X5_dearest : zOkC zprog zst zTG zTN ze_X5_dearest := zOkC_of (by decide +kernel) [1180, 1074] (by decide +kernel) (by decide +kernel) [] (by decide +kernel) (by decide +kernel)
theorem zs_X5_dearest : zmside ze_X5_dearest = true := by decide +kernel
set_option maxRecDepth 100000 in
theorem zm_X5_dearest : ∀ w ∈ zmwords ze_X5_dearest, w ∈ zTG := zmw_of 1452 rfl [1450, 1451, 58] (by decide +kernel) (by decide +kernel)
theorem zk_X4_fondest : zOkC zprog zst zTG zTN ze_X4_fondest := zOkC_of (by decide +kernel) [242, 335, 277] (by decide +kernel) (by decide +kernel) [] (by decide +kernel) (by decide +kernel)
theorem zs_X4_fondest : zmside ze_X4_fondest = true := by decide +kernel
set_option maxRecDepth 100000 in
theorem zm_X4_fondest : ∀ w ∈ zmwords ze_X4_fondest, w ∈ zTG := zmw_of 867 rfl [865, 866, 53] (by decide +kernel) (by decide +kernel)
theorem zk_X5_fondest : zOkC zprog zst zTG zTN ze_X5_fondest := zOkC_of (by decide +kernel) [1105, 1074] (by decide +kernel) (by decide +kernel) [] (by decide +kernel) (by decide +kernel)
theorem zs_X5_fondest : zmside ze_X5_fondest = true := by decide +kernel
set_option maxRecDepth 100000 in
theorem zm_X5_fondest : ∀ w ∈ zmwords ze_X5_fondest, w ∈ zTG := zmw_of 1456 rfl [1454, 1455, 58] (by decide +kernel) (by decide +kernel)
theorem zk_X4_go : zOkC zprog zst zTG zTN ze_X4_go := zOkC_of (by decide +kernel) [242, 461, 277] (by decide +kernel) (by decide +kernel) [] (by decide +kernel) (by decide +kernel)
theorem zs_X4_go : zmside ze_X4_go = true := by decide +kernel
set_option maxRecDepth 100000 in
theorem zm_X4_go : ∀ w ∈ zmwords ze_X4_go, w ∈ zTG := zmw_of 883 rfl [881, 882, 53] (by decide +kernel) (by decide +kernel)
theorem zk_X5_go : zOkC zprog zst zTG zTN ze_X5_go := zOkC_of (by decide +kernel) [1180, 1074] (by decide +kernel) (by decide +kernel) [] (by decide +kernel) (by decide +kernel)
theorem zs_X5_go : zmside ze_X5_go = true := by decide +kernel
set_option maxRecDepth 100000 in
theorem zm_X5_go : ∀ w ∈ zmwords ze_X5_go, w ∈ zTG := zmw_of 1472 rfl [1470, 1471, 58] (by decide +kernel) (by decide +kernel)
theorem zk_X4_five : zOkC zprog zst zTG zTN ze_X4_five := zOkC_of (by decide +kernel) [242, 461, 277] (by decide +kernel) (by decide +kernel) [] (by decide +kernel) (by decide +kernel)
theorem zs_X4_five : zmside ze_X4_five = true := by decide +kernel
set_option maxRecDepth 100000 in
theorem zm_X4_five : ∀ w ∈ zmwords ze_X4_five, w ∈ zTG := zmw_of 897 rfl [895, 896, 53] (by decide +kernel) (by decide +kernel)
theorem zk_X5_five : zOkC zprog zst zTG zTN ze_X5_five := zOkC_of (by decide +kernel) [1180, 1074] (by decide +kernel) (by decide +kernel) [] (by decide +kernel) (by decide +kernel)
theorem zs_X5_five : zmside ze_X5_five = true := by decide +kernel
set_option maxRecDepth 100000 in
theorem zm_X5_five : ∀ w ∈ zmwords ze_X5_five, w ∈ zTG := zmw_of 1489 rfl [1487, 1488, 58] (by decide +kernel) (by decide +kernel)
theorem zk_X4_plays : zOkC zprog zst zTG zTN ze_X4_plays := zOkC_of (by decide +kernel) [242, 461, 277] (by decide +kernel) (by decide +kernel) [] (by decide +kernel) (by decide +kernel)
theorem zs_X4_plays : zmside ze_X4_plays = true := by decide +kernel
set_option maxRecDepth 100000 in
theorem zm_X4_plays : ∀ w ∈ zmwords ze_X4_plays, w ∈ zTG := zmw_of 901 rfl [899, 900, 53] (by decide +kernel) (by decide +kernel)
theorem zk_X5_plays : zOkC zprog zst zTG zTN ze_X5_plays := zOkC_of (by decide +kernel) [1180, 1074] (by decide +kernel) (by decide +kernel) [] (by decide +kernel) (by decide +kernel)
theorem zs_X5_plays : zmside ze_X5_plays = true := by decide +kernel
set_option maxRecDepth 100000 in
theorem zm_X5_plays : ∀ w ∈ zmwords ze_X5_plays, w ∈ zTG := zmw_of 1493 rfl [1491, 1492, 58] (by decide +kernel) (by decide +kernel)
theorem zk_X5_becomeSlips : zOkC zprog zst zTG zTN ze_X5_becomeSlips := zOkC_of (by decide +kernel) [949, 956] (by decide +kernel) (by decide +kernel) [] (by decide +kernel) (by decide +kernel)
theorem zs_X5_becomeSlips : zmside ze_X5_becomeSlips = true := by decide +kernel
set_option maxRecDepth 100000 in
theorem zm_X5_becomeSlips : ∀ w ∈ zmwords ze_X5_becomeSlips, w ∈ zTG := zmw_of 1137 rfl [1136, 12, 58] (by decide +kernel) (by decide +kernel)
theorem zk_X1_addBuyer : zOkC zprog zst zTG zTN ze_X1_addBuyer := zOkC_of (by decide +kernel) [124, 127, 124, 124] (by decide +kernel) (by decide +kernel) [] (by decide +kernel) (by decide +kernel)
theorem zs_X1_addBuyer : zmside ze_X1_addBuyer = true := by decide +kernel
set_option maxRecDepth 100000 in
theorem zm_X1_addBuyer : ∀ w ∈ zmwords ze_X1_addBuyer, w ∈ zTG := zmw_of 456 rfl [454, 455, 54] (by decide +kernel) (by decide +kernel)
theorem zk_X5_addBuyer : zOkC zprog zst zTG zTN ze_X5_addBuyer := zOkC_of (by decide +kernel) [964, 963, 965, 963, 963, 963] (by decide +kernel) (by decide +kernel) [] (by decide +kernel) (by decide +kernel)
theorem zs_X5_addBuyer : zmside ze_X5_addBuyer = true := by decide +kernel
set_option maxRecDepth 100000 in
theorem zm_X5_addBuyer : ∀ w ∈ zmwords ze_X5_addBuyer, w ∈ zTG := zmw_of 1175 rfl [1174, 16, 58] (by decide +kernel) (by decide +kernel)
theorem zk_X4_wipe : zOkC zprog zst zTG zTN ze_X4_wipe := zOkC_of (by decide +kernel) [246, 203, 246, 203] (by decide +kernel) (by decide +kernel) [] (by decide +kernel) (by decide +kernel)
theorem zs_X4_wipe : zmside ze_X4_wipe = true := by decide +kernel
set_option maxRecDepth 100000 in
theorem zm_X4_wipe : ∀ w ∈ zmwords ze_X4_wipe, w ∈ zTG := zmw_of 478 rfl [476, 477, 53] (by decide +kernel) (by decide +kernel)
theorem zk_X5_wipe : zOkC zprog zst zTG zTN ze_X5_wipe := zOkC_of (by decide +kernel) [947, 947] (by decide +kernel) (by decide +kernel) [] (by decide +kernel) (by decide +kernel)
theorem zs_X5_wipe : zmside ze_X5_wipe = true := by decide +kernel
set_option maxRecDepth 100000 in
theorem zm_X5_wipe : ∀ w ∈ zmwords ze_X5_wipe, w ∈ zTG := zmw_of 1197 rfl [1195, 1196, 58] (by decide +kernel) (by decide +kernel)
theorem zk_X4_stall : zOkC zprog zst zTG zTN ze_X4_stall := zOkC_of (by decide +kernel) [244, 242, 483, 246, 244, 488, 246, 203, 277] (by decide +kernel) (by decide +kernel) [] (by decide +kernel) (by decide +kernel)
theorem zs_X4_stall : zmside ze_X4_stall = true := by decide +kernel
set_option maxRecDepth 100000 in
theorem zm_X4_stall : ∀ w ∈ zmwords ze_X4_stall, w ∈ zTG := zmw_of 482 rfl [480, 481, 53] (by decide +kernel) (by decide +kernel)
theorem zk_X2_readInto : zOkC zprog zst zTG zTN ze_X2_readInto := zOkC_of (by decide +kernel) [206, 492, 506, 205] (by decide +kernel) (by decide +kernel) [] (by decide +kernel) (by decide +kernel)
theorem zs_X2_readInto : zmside ze_X2_readInto = true := by decide +kernel
set_option maxRecDepth 100000 in
theorem zm_X2_readInto : ∀ w ∈ zmwords ze_X2_readInto, w ∈ zTG := zmw_of 491 rfl [489, 490, 56] (by decide +kernel) (by decide +kernel)
theorem zk_X2_step : zOkC zprog zst zTG zTN ze_X2_step := zOkC_of (by decide +kernel) [206, 205, 205, 202, 205, 202, 499, 206, 205, 202, 204, 204, 204, 204, 207] (by decide +kernel) (by decide +kernel) [] (by decide +kernel) (by decide +kernel)
theorem zs_X2_step : zmside ze_X2_step = true := by decide +kernel
set_option maxRecDepth 100000 in
theorem zm_X2_step : ∀ w ∈ zmwords ze_X2_step, w ∈ zTG := zmw_of 495 rfl [493, 494, 56] (by decide +kernel) (by decide +kernel)
theorem zk_X2_readStatement : zOkC zprog zst zTG zTN ze_X2_readStatement := zOkC_of (by decide +kernel) [511, 511, 511, 511, 511, 511, 511] (by decide +kernel) (by decide +kernel) [] (by decide +kernel) (by decide +kernel)
theorem zs_X2_readStatement : zmside ze_X2_readStatement = true := by decide +kernel
set_option maxRecDepth 100000 in
theorem zm_X2_readStatement : ∀ w ∈ zmwords ze_X2_readStatement, w ∈ zTG := zmw_of 509 rfl [507, 508, 56] (by decide +kernel) (by decide +kernel)
theorem zk_X5_stall : zOkC zprog zst zTG zTN ze_X5_stall := zOkC_of (by decide +kernel) [1202, 1215, 947, 1208, 1074, 972] (by decide +kernel) (by decide +kernel) [] (by decide +kernel) (by decide +kernel)
theorem zs_X5_stall : zmside ze_X5_stall = true := by decide +kernel
set_option maxRecDepth 100000 in
theorem zm_X5_stall : ∀ w ∈ zmwords ze_X5_stall, w ∈ zTG := zmw_of 1201 rfl [1199, 1200, 58] (by decide +kernel) (by decide +kernel)
theorem zk_X5_fresh : zOkC zprog zst zTG zTN ze_X5_fresh := zOkC_of (by decide +kernel) [967, 1206, 931, 58, 1207, 967, 967, 1208, 967] (by decide +kernel) (by decide +kernel) [] (by decide +kernel) (by decide +kernel)
theorem zs_X5_fresh : zmside ze_X5_fresh = true := by decide +kernel
set_option maxRecDepth 100000 in
theorem zm_X5_fresh : ∀ w ∈ zmwords ze_X5_fresh, w ∈ zTG := zmw_of 1205 rfl [1204, 18, 58] (by decide +kernel) (by decide +kernel)
theorem zk_X5_readAll : zOkC zprog zst zTG zTN ze_X5_readAll := zOkC_of (by decide +kernel) [974, 968, 1219, 1230] (by decide +kernel) (by decide +kernel) [] (by decide +kernel) (by decide +kernel)
theorem zs_X5_readAll : zmside ze_X5_readAll = true := by decide +kernel
set_option maxRecDepth 100000 in
theorem zm_X5_readAll : ∀ w ∈ zmwords ze_X5_readAll, w ∈ zTG := zmw_of 1218 rfl [1217, 20, 58] (by decide +kernel) (by decide +kernel)
theorem zk_X5_look : zOkC zprog zst zTG zTN ze_X5_look := zOkC_of (by decide +kernel) [968, 947, 968, 970, 971, 968, 947, 969] (by decide +kernel) (by decide +kernel) [] (by decide +kernel) (by decide +kernel)
theorem zs_X5_look : zmside ze_X5_look = true := by decide +kernel
set_option maxRecDepth 100000 in
theorem zm_X5_look : ∀ w ∈ zmwords ze_X5_look, w ∈ zTG := zmw_of 1222 rfl [1221, 21, 58] (by decide +kernel) (by decide +kernel)
theorem zk_X5_statement : zOkC zprog zst zTG zTN ze_X5_statement := zOkC_of (by decide +kernel) [1235, 1235, 1235, 1235, 1235, 1235, 1235, 1249] (by decide +kernel) (by decide +kernel) [] (by decide +kernel) (by decide +kernel)
theorem zs_X5_statement : zmside ze_X5_statement = true := by decide +kernel
set_option maxRecDepth 100000 in
theorem zm_X5_statement : ∀ w ∈ zmwords ze_X5_statement, w ∈ zTG := zmw_of 1233 rfl [1232, 22, 58] (by decide +kernel) (by decide +kernel)
theorem zk_X5_wrong : zOkC zprog zst zTG zTN ze_X5_wrong := zOkC_of (by decide +kernel) [970, 972] (by decide +kernel) (by decide +kernel) [] (by decide +kernel) (by decide +kernel)
theorem zs_X5_wrong : zmside ze_X5_wrong = true := by decide +kernel
set_option maxRecDepth 100000 in
theorem zm_X5_wrong : ∀ w ∈ zmwords ze_X5_wrong, w ∈ zTG := zmw_of 1252 rfl [1251, 26, 58] (by decide +kernel) (by decide +kernel)
theorem zk_X4_drawable : zOkC zprog zst zTG zTN ze_X4_drawable := zOkC_of (by decide +kernel) [242, 652] (by decide +kernel) (by decide +kernel) [] (by decide +kernel) (by decide +kernel)
theorem zs_X4_drawable : zmside ze_X4_drawable = true := by decide +kernel
set_option maxRecDepth 100000 in
theorem zm_X4_drawable : ∀ w ∈ zmwords ze_X4_drawable, w ∈ zTG := zmw_of 651 rfl [649, 650, 53] (by decide +kernel) (by decide +kernel)
theorem zk_X5_drawable : zOkC zprog zst zTG zTN ze_X5_drawable := zOkC_of (by decide +kernel) [1292] (by decide +kernel) (by decide +kernel) [] (by decide +kernel) (by decide +kernel)
theorem zs_X5_drawable : zmside ze_X5_drawable = true := by decide +kernel
set_option maxRecDepth 100000 in
theorem zm_X5_drawable : ∀ w ∈ zmwords ze_X5_drawable, w ∈ zTG := zmw_of 1291 rfl [1289, 1290, 58] (by decide +kernel) (by decide +kernel)
theorem zk_X4_bestPrice : zOkC zprog zst zTG zTN ze_X4_bestPrice := zOkC_of (by decide +kernel) [242, 772, 242, 772] (by decide +kernel) (by decide +kernel) [] (by decide +kernel) (by decide +kernel)
theorem zs_X4_bestPrice : zmside ze_X4_bestPrice = true := by decide +kernel
set_option maxRecDepth 100000 in
theorem zm_X4_bestPrice : ∀ w ∈ zmwords ze_X4_bestPrice, w ∈ zTG := zmw_of 781 rfl [779, 780, 53] (by decide +kernel) (by decide +kernel)
theorem zk_X5_bestPrice : zOkC zprog zst zTG zTN ze_X5_bestPrice := zOkC_of (by decide +kernel) [1379] (by decide +kernel) (by decide +kernel) [] (by decide +kernel) (by decide +kernel)
theorem zs_X5_bestPrice : zmside ze_X5_bestPrice = true := by decide +kernel
set_option maxRecDepth 100000 in
theorem zm_X5_bestPrice : ∀ w ∈ zmwords ze_X5_bestPrice, w ∈ zTG := zmw_of 1386 rfl [1384, 1385, 58] (by decide +kernel) (by decide +kernel)
theorem zk_X4_full : zOkC zprog zst zTG zTN ze_X4_full := zOkC_of (by decide +kernel) [242, 242, 741, 786] (by decide +kernel) (by decide +kernel) [] (by decide +kernel) (by decide +kernel)
theorem zs_X4_full : zmside ze_X4_full = true := by decide +kernel
set_option maxRecDepth 100000 in
theorem zm_X4_full : ∀ w ∈ zmwords ze_X4_full, w ∈ zTG := zmw_of 785 rfl [783, 784, 53] (by decide +kernel) (by decide +kernel)
theorem zk_X5_full : zOkC zprog zst zTG zTN ze_X5_full := zOkC_of (by decide +kernel) [1125, 1391] (by decide +kernel) (by decide +kernel) [] (by decide +kernel) (by decide +kernel)
theorem zs_X5_full : zmside ze_X5_full = true := by decide +kernel
set_option maxRecDepth 100000 in
theorem zm_X5_full : ∀ w ∈ zmwords ze_X5_full, w ∈ zTG := zmw_of 1390 rfl [1388, 1389, 58] (by decide +kernel) (by decide +kernel)
theorem zk_X4_envy : zOkC zprog zst zTG zTN ze_X4_envy := zOkC_of (by decide +kernel) [242, 126] (by decide +kernel) (by decide +kernel) [] (by decide +kernel) (by decide +kernel)
theorem zs_X4_envy : zmside ze_X4_envy = true := by decide +kernel
set_option maxRecDepth 100000 in
theorem zm_X4_envy : ∀ w ∈ zmwords ze_X4_envy, w ∈ zTG := zmw_of 871 rfl [869, 870, 53] (by decide +kernel) (by decide +kernel)
theorem zk_X5_envy : zOkC zprog zst zTG zTN ze_X5_envy := zOkC_of (by decide +kernel) [963] (by decide +kernel) (by decide +kernel) [] (by decide +kernel) (by decide +kernel)
theorem zs_X5_envy : zmside ze_X5_envy = true := by decide +kernel
set_option maxRecDepth 100000 in
theorem zm_X5_envy : ∀ w ∈ zmwords ze_X5_envy, w ∈ zTG := zmw_of 1460 rfl [1458, 1459, 58] (by decide +kernel) (by decide +kernel)
theorem zk_X4_poorest : zOkC zprog zst zTG zTN ze_X4_poorest := zOkC_of (by decide +kernel) [242, 126, 277] (by decide +kernel) (by decide +kernel) [] (by decide +kernel) (by decide +kernel)
theorem zs_X4_poorest : zmside ze_X4_poorest = true := by decide +kernel
set_option maxRecDepth 100000 in
theorem zm_X4_poorest : ∀ w ∈ zmwords ze_X4_poorest, w ∈ zTG := zmw_of 875 rfl [873, 874, 53] (by decide +kernel) (by decide +kernel)
theorem zk_X5_poorest : zOkC zprog zst zTG zTN ze_X5_poorest := zOkC_of (by decide +kernel) [963, 1074] (by decide +kernel) (by decide +kernel) [] (by decide +kernel) (by decide +kernel)
theorem zs_X5_poorest : zmside ze_X5_poorest = true := by decide +kernel
set_option maxRecDepth 100000 in
theorem zm_X5_poorest : ∀ w ∈ zmwords ze_X5_poorest, w ∈ zTG := zmw_of 1464 rfl [1462, 1463, 58] (by decide +kernel) (by decide +kernel)
theorem zk_X4_oldest : zOkC zprog zst zTG zTN ze_X4_oldest := zOkC_of (by decide +kernel) [242, 113, 277] (by decide +kernel) (by decide +kernel) [] (by decide +kernel) (by decide +kernel)
theorem zs_X4_oldest : zmside ze_X4_oldest = true := by decide +kernel
set_option maxRecDepth 100000 in
theorem zm_X4_oldest : ∀ w ∈ zmwords ze_X4_oldest, w ∈ zTG := zmw_of 879 rfl [877, 878, 53] (by decide +kernel) (by decide +kernel)
theorem zk_X5_oldest : zOkC zprog zst zTG zTN ze_X5_oldest := zOkC_of (by decide +kernel) [957, 1074] (by decide +kernel) (by decide +kernel) [] (by decide +kernel) (by decide +kernel)
theorem zs_X5_oldest : zmside ze_X5_oldest = true := by decide +kernel
set_option maxRecDepth 100000 in
theorem zm_X5_oldest : ∀ w ∈ zmwords ze_X5_oldest, w ∈ zTG := zmw_of 1468 rfl [1466, 1467, 58] (by decide +kernel) (by decide +kernel)
theorem zk_X1_beginFete : zOkC zprog zst zTG zTN ze_X1_beginFete := zOkC_of (by decide +kernel) [85, 102, 110] (by decide +kernel) (by decide +kernel) [] (by decide +kernel) (by decide +kernel)
theorem zs_X1_beginFete : zmside ze_X1_beginFete = true := by decide +kernel
set_option maxRecDepth 100000 in
theorem zm_X1_beginFete : ∀ w ∈ zmwords ze_X1_beginFete, w ∈ zTG := zmw_of 909 rfl [907, 908, 54] (by decide +kernel) (by decide +kernel)
theorem zk_X4_seed : zOkC zprog zst zTG zTN ze_X4_seed := zOkC_of (by decide +kernel) [242, 108, 242, 108] (by decide +kernel) (by decide +kernel) [] (by decide +kernel) (by decide +kernel)
theorem zs_X4_seed : zmside ze_X4_seed = true := by decide +kernel
set_option maxRecDepth 100000 in
theorem zm_X4_seed : ∀ w ∈ zmwords ze_X4_seed, w ∈ zTG := zmw_of 913 rfl [911, 912, 53] (by decide +kernel) (by decide +kernel)
theorem zk_X5_seed : zOkC zprog zst zTG zTN ze_X5_seed := zOkC_of (by decide +kernel) [955, 955] (by decide +kernel) (by decide +kernel) [] (by decide +kernel) (by decide +kernel)
theorem zs_X5_seed : zmside ze_X5_seed = true := by decide +kernel
set_option maxRecDepth 100000 in
theorem zm_X5_seed : ∀ w ∈ zmwords ze_X5_seed, w ∈ zTG := zmw_of 1501 rfl [1499, 1500, 58] (by decide +kernel) (by decide +kernel)
theorem zk_X4_image : zOkC zprog zst zTG zTN ze_X4_image := zOkC_of (by decide +kernel) [243, 242, 483, 249] (by decide +kernel) (by decide +kernel) [] (by decide +kernel) (by decide +kernel)
theorem zs_X4_image : zmside ze_X4_image = true := by decide +kernel
set_option maxRecDepth 100000 in
theorem zm_X4_image : ∀ w ∈ zmwords ze_X4_image, w ∈ zTG := zmw_of 917 rfl [915, 916, 53] (by decide +kernel) (by decide +kernel)
theorem zk_X5_image : zOkC zprog zst zTG zTN ze_X5_image := zOkC_of (by decide +kernel) [966, 1206, 931, 58, 1207, 966, 966, 1208] (by decide +kernel) (by decide +kernel) [] (by decide +kernel) (by decide +kernel)
theorem zs_X5_image : zmside ze_X5_image = true := by decide +kernel
set_option maxRecDepth 100000 in
theorem zm_X5_image : ∀ w ∈ zmwords ze_X5_image, w ∈ zTG := zmw_of 1505 rfl [1503, 1504, 58] (by decide +kernel) (by decide +kernel)
theorem zk_X4_back : zOkC zprog zst zTG zTN ze_X4_back := zOkC_of (by decide +kernel) [249, 277] (by decide +kernel) (by decide +kernel) [] (by decide +kernel) (by decide +kernel)
theorem zs_X4_back : zmside ze_X4_back = true := by decide +kernel
set_option maxRecDepth 100000 in
theorem zm_X4_back : ∀ w ∈ zmwords ze_X4_back, w ∈ zTG := zmw_of 921 rfl [919, 920, 53] (by decide +kernel) (by decide +kernel)
theorem zk_X5_back : zOkC zprog zst zTG zTN ze_X5_back := zOkC_of (by decide +kernel) [966, 1074] (by decide +kernel) (by decide +kernel) [] (by decide +kernel) (by decide +kernel)
theorem zs_X5_back : zmside ze_X5_back = true := by decide +kernel
set_option maxRecDepth 100000 in
theorem zm_X5_back : ∀ w ∈ zmwords ze_X5_back, w ∈ zTG := zmw_of 1509 rfl [1507, 1508, 58] (by decide +kernel) (by decide +kernel)
theorem zk_X5_standing : zOkC zprog zst zTG zTN ze_X5_standing := zOkC_of (by decide +kernel) [957] (by decide +kernel) (by decide +kernel) [] (by decide +kernel) (by decide +kernel)
theorem zs_X5_standing : zmside ze_X5_standing = true := by decide +kernel
set_option maxRecDepth 100000 in
theorem zm_X5_standing : ∀ w ∈ zmwords ze_X5_standing, w ∈ zTG := zmw_of 1120 rfl [1119, 9, 58] (by decide +kernel) (by decide +kernel)
theorem zk_X4_countShelvesInUse : zOkC zprog zst zTG zTN ze_X4_countShelvesInUse := zOkC_of (by decide +kernel) [247, 229] (by decide +kernel) (by decide +kernel) [] (by decide +kernel) (by decide +kernel)
theorem zs_X4_countShelvesInUse : zmside ze_X4_countShelvesInUse = true := by decide +kernel
set_option maxRecDepth 100000 in
theorem zm_X4_countShelvesInUse : ∀ w ∈ zmwords ze_X4_countShelvesInUse, w ∈ zTG := zmw_of 929 rfl [928, 5, 53] (by decide +kernel) (by decide +kernel)
