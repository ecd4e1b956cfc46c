theorem zk_X4_wordOf : zOkC zprog zst zTG zTN ze_X4_wordOf := zOkC_of (by decide +kernel) [242, 352, 357, 242, 121, 242, 358, 242, 375, 242, 382, 242, 396] (by decide +kernel) (by decide +kernel) [] (by decide +kernel) (by decide +kernel)
theorem zs_X4_wordOf : zmside ze_X4_wordOf = true := by decide +kernel
set_option maxRecDepth 100000 in
theorem zm_X4_wordOf : ∀ w ∈ zmwords ze_X4_wordOf, w ∈ zTG := zmw_of 351 rfl [350, 1, 53] (by decide +kernel) (by decide +kernel)
theorem zk_X4_worth : zOkC zprog zst zTG zTN ze_X4_worth := zOkC_of (by decide +kernel) [242, 461, 242, 675, 277] (by decide +kernel) (by decide +kernel) [] (by decide +kernel) (by decide +kernel)
theorem zs_X4_worth : zmside ze_X4_worth = true := by decide +kernel
set_option maxRecDepth 100000 in
theorem zm_X4_worth : ∀ w ∈ zmwords ze_X4_worth, w ∈ zTG := zmw_of 674 rfl [672, 673, 53] (by decide +kernel) (by decide +kernel)
theorem zk_X5_addBuyer : zOkC zprog zst zTG zTN ze_X5_addBuyer := zOkC_of (by decide +kernel) [964, 963, 965, 963, 963, 963] (by decide +kernel) (by decide +kernel) [] (by decide +kernel) (by decide +kernel)
theorem zs_X5_addBuyer : zmside ze_X5_addBuyer = true := by decide +kernel
set_option maxRecDepth 100000 in
theorem zm_X5_addBuyer : ∀ w ∈ zmwords ze_X5_addBuyer, w ∈ zTG := zmw_of 1175 rfl [1174, 16, 58] (by decide +kernel) (by decide +kernel)
theorem zk_X5_addThing : zOkC zprog zst zTG zTN ze_X5_addThing := zOkC_of (by decide +kernel) [958, 957, 959, 957, 960, 957, 961, 957, 962, 957, 965, 957, 957, 957] (by decide +kernel) (by decide +kernel) [] (by decide +kernel) (by decide +kernel)
theorem zs_X5_addThing : zmside ze_X5_addThing = true := by decide +kernel
set_option maxRecDepth 100000 in
theorem zm_X5_addThing : ∀ w ∈ zmwords ze_X5_addThing, w ∈ zTG := zmw_of 1166 rfl [1165, 15, 58] (by decide +kernel) (by decide +kernel)
theorem zk_X5_all : zOkC zprog zst zTG zTN ze_X5_all := zOkC_of (by decide +kernel) [1180, 1370, 1074, 1117, 1284, 951, 1125] (by decide +kernel) (by decide +kernel) [] (by decide +kernel) (by decide +kernel)
theorem zs_X5_all : zmside ze_X5_all = true := by decide +kernel
set_option maxRecDepth 100000 in
theorem zm_X5_all : ∀ w ∈ zmwords ze_X5_all, w ∈ zTG := zmw_of 1374 rfl [1372, 1373, 58] (by decide +kernel) (by decide +kernel)
theorem zk_X5_atOnce : zOkC zprog zst zTG zTN ze_X5_atOnce := zOkC_of (by decide +kernel) [1180, 1370, 1074, 1362, 1352, 952] (by decide +kernel) (by decide +kernel) [] (by decide +kernel) (by decide +kernel)
theorem zs_X5_atOnce : zmside ze_X5_atOnce = true := by decide +kernel
set_option maxRecDepth 100000 in
theorem zm_X5_atOnce : ∀ w ∈ zmwords ze_X5_atOnce, w ∈ zTG := zmw_of 1369 rfl [1367, 1368, 58] (by decide +kernel) (by decide +kernel)
theorem zk_X5_back : zOkC zprog zst zTG zTN ze_X5_back := zOkC_of (by decide +kernel) [966, 1074, 966, 1208, 940, 945, 957, 940] (by decide +kernel) (by decide +kernel) [] (by decide +kernel) (by decide +kernel)
theorem zs_X5_back : zmside ze_X5_back = true := by decide +kernel
set_option maxRecDepth 100000 in
theorem zm_X5_back : ∀ w ∈ zmwords ze_X5_back, w ∈ zTG := zmw_of 1509 rfl [1507, 1508, 58] (by decide +kernel) (by decide +kernel)
theorem zk_X5_becomeSlips : zOkC zprog zst zTG zTN ze_X5_becomeSlips := zOkC_of (by decide +kernel) [949, 956] (by decide +kernel) (by decide +kernel) [] (by decide +kernel) (by decide +kernel)
theorem zs_X5_becomeSlips : zmside ze_X5_becomeSlips = true := by decide +kernel
set_option maxRecDepth 100000 in
theorem zm_X5_becomeSlips : ∀ w ∈ zmwords ze_X5_becomeSlips, w ∈ zTG := zmw_of 1137 rfl [1136, 12, 58] (by decide +kernel) (by decide +kernel)
theorem zk_X5_beginValues : zOkC zprog zst zTG zTN ze_X5_beginValues := zOkC_of (by decide +kernel) [975, 936, 241, 975, 975, 1340, 976, 953, 977, 1125, 978, 979] (by decide +kernel) (by decide +kernel) [] (by decide +kernel) (by decide +kernel)
theorem zs_X5_beginValues : zmside ze_X5_beginValues = true := by decide +kernel
set_option maxRecDepth 100000 in
theorem zm_X5_beginValues : ∀ w ∈ zmwords ze_X5_beginValues, w ∈ zTG := zmw_of 1339 rfl [1338, 39, 58] (by decide +kernel) (by decide +kernel)
theorem zk_X5_below : zOkC zprog zst zTG zTN ze_X5_below := zOkC_of (by decide +kernel) [955, 1485, 955, 955] (by decide +kernel) (by decide +kernel) [] (by decide +kernel) (by decide +kernel)
theorem zs_X5_below : zmside ze_X5_below = true := by decide +kernel
set_option maxRecDepth 100000 in
theorem zm_X5_below : ∀ w ∈ zmwords ze_X5_below, w ∈ zTG := zmw_of 1484 rfl [1483, 51, 58] (by decide +kernel) (by decide +kernel)
theorem zk_X5_bestPrice : zOkC zprog zst zTG zTN ze_X5_bestPrice := zOkC_of (by decide +kernel) [1379] (by decide +kernel) (by decide +kernel) [] (by decide +kernel) (by decide +kernel)
theorem zs_X5_bestPrice : zmside ze_X5_bestPrice = true := by decide +kernel
set_option maxRecDepth 100000 in
theorem zm_X5_bestPrice : ∀ w ∈ zmwords ze_X5_bestPrice, w ∈ zTG := zmw_of 1386 rfl [1384, 1385, 58] (by decide +kernel) (by decide +kernel)
theorem zk_X5_bits : zOkC zprog zst zTG zTN ze_X5_bits := zOkC_of (by decide +kernel) [] (by decide +kernel) (by decide +kernel) [] (by decide +kernel) (by decide +kernel)
theorem zs_X5_bits : zmside ze_X5_bits = true := by decide +kernel
set_option maxRecDepth 100000 in
theorem zm_X5_bits : ∀ w ∈ zmwords ze_X5_bits, w ∈ zTG := zmw_of 1351 rfl [1350, 58] (by decide +kernel) (by decide +kernel)
theorem zk_X5_booked : zOkC zprog zst zTG zTN ze_X5_booked := zOkC_of (by decide +kernel) [1068, 1069, 1073, 1069, 1180, 1074, 1420, 943, 1424, 964, 951, 1074, 943, 1428, 964, 951, 954, 951, 954, 980] (by decide +kernel) (by decide +kernel) [] (by decide +kernel) (by decide +kernel)
theorem zs_X5_booked : zmside ze_X5_booked = true := by decide +kernel
set_option maxRecDepth 100000 in
theorem zm_X5_booked : ∀ w ∈ zmwords ze_X5_booked, w ∈ zTG := zmw_of 1439 rfl [1437, 1438, 58] (by decide +kernel) (by decide +kernel)
theorem zk_X5_brought : zOkC zprog zst zTG zTN ze_X5_brought := zOkC_of (by decide +kernel) [957, 958, 958] (by decide +kernel) (by decide +kernel) [] (by decide +kernel) (by decide +kernel)
theorem zs_X5_brought : zmside ze_X5_brought = true := by decide +kernel
set_option maxRecDepth 100000 in
theorem zm_X5_brought : ∀ w ∈ zmwords ze_X5_brought, w ∈ zTG := zmw_of 1124 rfl [1123, 10, 58] (by decide +kernel) (by decide +kernel)
theorem zk_X5_buyer : zOkC zprog zst zTG zTN ze_X5_buyer := zOkC_of (by decide +kernel) [1171, 1069, 1074, 963, 1074, 1172, 963] (by decide +kernel) (by decide +kernel) [] (by decide +kernel) (by decide +kernel)
theorem zs_X5_buyer : zmside ze_X5_buyer = true := by decide +kernel
set_option maxRecDepth 100000 in
theorem zm_X5_buyer : ∀ w ∈ zmwords ze_X5_buyer, w ∈ zTG := zmw_of 1170 rfl [1168, 1169, 58] (by decide +kernel) (by decide +kernel)
theorem zk_X5_buyerOf : zOkC zprog zst zTG zTN ze_X5_buyerOf := zOkC_of (by decide +kernel) [1180, 1074, 964, 1280, 1280, 1284, 1117, 1284, 1074] (by decide +kernel) (by decide +kernel) [] (by decide +kernel) (by decide +kernel)
theorem zs_X5_buyerOf : zmside ze_X5_buyerOf = true := by decide +kernel
set_option maxRecDepth 100000 in
theorem zm_X5_buyerOf : ∀ w ∈ zmwords ze_X5_buyerOf, w ∈ zTG := zmw_of 1279 rfl [1277, 1278, 58] (by decide +kernel) (by decide +kernel)
theorem zk_X5_canDraw : zOkC zprog zst zTG zTN ze_X5_canDraw := zOkC_of (by decide +kernel) [949, 1069, 956, 1159, 962, 953, 1125, 1300] (by decide +kernel) (by decide +kernel) [] (by decide +kernel) (by decide +kernel)
theorem zs_X5_canDraw : zmside ze_X5_canDraw = true := by decide +kernel
set_option maxRecDepth 100000 in
theorem zm_X5_canDraw : ∀ w ∈ zmwords ze_X5_canDraw, w ∈ zTG := zmw_of 1299 rfl [1298, 33, 58] (by decide +kernel) (by decide +kernel)
theorem zk_X5_chain : zOkC zprog zst zTG zTN ze_X5_chain := zOkC_of (by decide +kernel) [1105, 1074, 962, 1448, 1117, 1125, 1448, 1444] (by decide +kernel) (by decide +kernel) [] (by decide +kernel) (by decide +kernel)
theorem zs_X5_chain : zmside ze_X5_chain = true := by decide +kernel
set_option maxRecDepth 100000 in
theorem zm_X5_chain : ∀ w ∈ zmwords ze_X5_chain, w ∈ zTG := zmw_of 1443 rfl [1441, 1442, 58] (by decide +kernel) (by decide +kernel)
theorem zk_X5_comesOn : zOkC zprog zst zTG zTN ze_X5_comesOn := zOkC_of (by decide +kernel) [1349, 957, 953, 1300, 1316] (by decide +kernel) (by decide +kernel) [] (by decide +kernel) (by decide +kernel)
theorem zs_X5_comesOn : zmside ze_X5_comesOn = true := by decide +kernel
set_option maxRecDepth 100000 in
theorem zm_X5_comesOn : ∀ w ∈ zmwords ze_X5_comesOn, w ∈ zTG := zmw_of 1447 rfl [1446, 48, 58] (by decide +kernel) (by decide +kernel)
theorem zk_X5_comesOut : zOkC zprog zst zTG zTN ze_X5_comesOut := zOkC_of (by decide +kernel) [1312, 956, 953, 953, 957, 962, 961, 958] (by decide +kernel) (by decide +kernel) [] (by decide +kernel) (by decide +kernel)
theorem zs_X5_comesOut : zmside ze_X5_comesOut = true := by decide +kernel
set_option maxRecDepth 100000 in
theorem zm_X5_comesOut : ∀ w ∈ zmwords ze_X5_comesOut, w ∈ zTG := zmw_of 1431 rfl [1430, 47, 58] (by decide +kernel) (by decide +kernel)
theorem zk_X5_copy : zOkC zprog zst zTG zTN ze_X5_copy := zOkC_of (by decide +kernel) [1068, 1069, 1068, 1069, 1074, 940, 940, 940, 940, 941, 941, 1074, 940, 940, 1074, 942, 942, 942, 942, 1074, 944, 943, 943, 944] (by decide +kernel) (by decide +kernel) [] (by decide +kernel) (by decide +kernel)
theorem zs_X5_copy : zmside ze_X5_copy = true := by decide +kernel
set_option maxRecDepth 100000 in
theorem zm_X5_copy : ∀ w ∈ zmwords ze_X5_copy, w ∈ zTG := zmw_of 1092 rfl [1090, 1091, 58] (by decide +kernel) (by decide +kernel)
theorem zk_X5_dearest : zOkC zprog zst zTG zTN ze_X5_dearest := zOkC_of (by decide +kernel) [1180, 1074, 957, 962, 965, 965] (by decide +kernel) (by decide +kernel) [] (by decide +kernel) (by decide +kernel)
theorem zs_X5_dearest : zmside ze_X5_dearest = true := by decide +kernel
set_option maxRecDepth 100000 in
theorem zm_X5_dearest : ∀ w ∈ zmwords ze_X5_dearest, w ∈ zTG := zmw_of 1452 rfl [1450, 1451, 58] (by decide +kernel) (by decide +kernel)
theorem zk_X5_drawable : zOkC zprog zst zTG zTN ze_X5_drawable := zOkC_of (by decide +kernel) [1292] (by decide +kernel) (by decide +kernel) [] (by decide +kernel) (by decide +kernel)
theorem zs_X5_drawable : zmside ze_X5_drawable = true := by decide +kernel
set_option maxRecDepth 100000 in
theorem zm_X5_drawable : ∀ w ∈ zmwords ze_X5_drawable, w ∈ zTG := zmw_of 1291 rfl [1289, 1290, 58] (by decide +kernel) (by decide +kernel)
theorem zk_X5_drawableMany : zOkC zprog zst zTG zTN ze_X5_drawableMany := zOkC_of (by decide +kernel) [949, 1296] (by decide +kernel) (by decide +kernel) [] (by decide +kernel) (by decide +kernel)
theorem zs_X5_drawableMany : zmside ze_X5_drawableMany = true := by decide +kernel
set_option maxRecDepth 100000 in
theorem zm_X5_drawableMany : ∀ w ∈ zmwords ze_X5_drawableMany, w ∈ zTG := zmw_of 1295 rfl [1294, 32, 58] (by decide +kernel) (by decide +kernel)
theorem zk_X5_drawn : zOkC zprog zst zTG zTN ze_X5_drawn := zOkC_of (by decide +kernel) [1292, 1481, 1296] (by decide +kernel) (by decide +kernel) [] (by decide +kernel) (by decide +kernel)
theorem zs_X5_drawn : zmside ze_X5_drawn = true := by decide +kernel
set_option maxRecDepth 100000 in
theorem zm_X5_drawn : ∀ w ∈ zmwords ze_X5_drawn, w ∈ zTG := zmw_of 1480 rfl [1479, 50, 58] (by decide +kernel) (by decide +kernel)
theorem zk_X5_element : zOkC zprog zst zTG zTN ze_X5_element := zOkC_of (by decide +kernel) [1068, 1069, 940, 942, 1069, 943] (by decide +kernel) (by decide +kernel) [] (by decide +kernel) (by decide +kernel)
theorem zs_X5_element : zmside ze_X5_element = true := by decide +kernel
set_option maxRecDepth 100000 in
theorem zm_X5_element : ∀ w ∈ zmwords ze_X5_element, w ∈ zTG := zmw_of 1096 rfl [1094, 1095, 58] (by decide +kernel) (by decide +kernel)
theorem zk_X5_envy : zOkC zprog zst zTG zTN ze_X5_envy := zOkC_of (by decide +kernel) [963, 963, 1280, 1284, 1280, 1284] (by decide +kernel) (by decide +kernel) [] (by decide +kernel) (by decide +kernel)
theorem zs_X5_envy : zmside ze_X5_envy = true := by decide +kernel
set_option maxRecDepth 100000 in
theorem zm_X5_envy : ∀ w ∈ zmwords ze_X5_envy, w ∈ zTG := zmw_of 1460 rfl [1458, 1459, 58] (by decide +kernel) (by decide +kernel)
theorem zk_X5_feed : zOkC zprog zst zTG zTN ze_X5_feed := zOkC_of (by decide +kernel) [1193, 1069, 1074, 947, 1074, 946, 947, 947, 947] (by decide +kernel) (by decide +kernel) [] (by decide +kernel) (by decide +kernel)
theorem zs_X5_feed : zmside ze_X5_feed = true := by decide +kernel
set_option maxRecDepth 100000 in
theorem zm_X5_feed : ∀ w ∈ zmwords ze_X5_feed, w ∈ zTG := zmw_of 1192 rfl [1190, 1191, 58] (by decide +kernel) (by decide +kernel)
theorem zk_X5_fete : zOkC zprog zst zTG zTN ze_X5_fete := zOkC_of (by decide +kernel) [1352, 1069, 1074, 956, 953, 957, 962, 965, 962, 962, 961] (by decide +kernel) (by decide +kernel) [] (by decide +kernel) (by decide +kernel)
theorem zs_X5_fete : zmside ze_X5_fete = true := by decide +kernel
set_option maxRecDepth 100000 in
theorem zm_X5_fete : ∀ w ∈ zmwords ze_X5_fete, w ∈ zTG := zmw_of 1497 rfl [1495, 1496, 58] (by decide +kernel) (by decide +kernel)
theorem zk_X5_fit : zOkC zprog zst zTG zTN ze_X5_fit := zOkC_of (by decide +kernel) [] (by decide +kernel) (by decide +kernel) [] (by decide +kernel) (by decide +kernel)
theorem zs_X5_fit : zmside ze_X5_fit = true := by decide +kernel
set_option maxRecDepth 100000 in
theorem zm_X5_fit : ∀ w ∈ zmwords ze_X5_fit, w ∈ zTG := zmw_of 1088 rfl [1087, 58] (by decide +kernel) (by decide +kernel)
theorem zk_X5_five : zOkC zprog zst zTG zTN ze_X5_five := zOkC_of (by decide +kernel) [1180, 1074, 964, 952, 1292, 1074, 964, 952, 954, 952, 954, 1292, 1477, 1428] (by decide +kernel) (by decide +kernel) [] (by decide +kernel) (by decide +kernel)
theorem zs_X5_five : zmside ze_X5_five = true := by decide +kernel
set_option maxRecDepth 100000 in
theorem zm_X5_five : ∀ w ∈ zmwords ze_X5_five, w ∈ zTG := zmw_of 1489 rfl [1487, 1488, 58] (by decide +kernel) (by decide +kernel)
theorem zk_X5_fondest : zOkC zprog zst zTG zTN ze_X5_fondest := zOkC_of (by decide +kernel) [1105, 1074, 963, 1074, 963, 965, 965] (by decide +kernel) (by decide +kernel) [] (by decide +kernel) (by decide +kernel)
theorem zs_X5_fondest : zmside ze_X5_fondest = true := by decide +kernel
set_option maxRecDepth 100000 in
theorem zm_X5_fondest : ∀ w ∈ zmwords ze_X5_fondest, w ∈ zTG := zmw_of 1456 rfl [1454, 1455, 58] (by decide +kernel) (by decide +kernel)
theorem zk_X5_foundAt : zOkC zprog zst zTG zTN ze_X5_foundAt := zOkC_of (by decide +kernel) [978, 1349, 1341, 957, 977, 1300, 1316, 1352, 976, 1284, 1341, 979, 1352, 951] (by decide +kernel) (by decide +kernel) [] (by decide +kernel) (by decide +kernel)
theorem zs_X5_foundAt : zmside ze_X5_foundAt = true := by decide +kernel
set_option maxRecDepth 100000 in
theorem zm_X5_foundAt : ∀ w ∈ zmwords ze_X5_foundAt, w ∈ zTG := zmw_of 1348 rfl [1347, 41, 58] (by decide +kernel) (by decide +kernel)
theorem zk_X5_fresh : zOkC zprog zst zTG zTN ze_X5_fresh := zOkC_of (by decide +kernel) [967, 1206, 931, 58, 1207, 967, 967, 1208, 967] (by decide +kernel) (by decide +kernel) [] (by decide +kernel) (by decide +kernel)
theorem zs_X5_fresh : zmside ze_X5_fresh = true := by decide +kernel
set_option maxRecDepth 100000 in
theorem zm_X5_fresh : ∀ w ∈ zmwords ze_X5_fresh, w ∈ zTG := zmw_of 1205 rfl [1204, 18, 58] (by decide +kernel) (by decide +kernel)
theorem zk_X5_full : zOkC zprog zst zTG zTN ze_X5_full := zOkC_of (by decide +kernel) [1125, 1391] (by decide +kernel) (by decide +kernel) [] (by decide +kernel) (by decide +kernel)
theorem zs_X5_full : zmside ze_X5_full = true := by decide +kernel
set_option maxRecDepth 100000 in
theorem zm_X5_full : ∀ w ∈ zmwords ze_X5_full, w ∈ zTG := zmw_of 1390 rfl [1388, 1389, 58] (by decide +kernel) (by decide +kernel)
theorem zk_X5_fullWith : zOkC zprog zst zTG zTN ze_X5_fullWith := zOkC_of (by decide +kernel) [949, 949] (by decide +kernel) (by decide +kernel) [] (by decide +kernel) (by decide +kernel)
theorem zs_X5_fullWith : zmside ze_X5_fullWith = true := by decide +kernel
set_option maxRecDepth 100000 in
theorem zm_X5_fullWith : ∀ w ∈ zmwords ze_X5_fullWith, w ∈ zTG := zmw_of 1394 rfl [1393, 44, 58] (by decide +kernel) (by decide +kernel)
theorem zk_X5_go : zOkC zprog zst zTG zTN ze_X5_go := zOkC_of (by decide +kernel) [1180, 1074, 964, 951, 1292, 1074, 1473] (by decide +kernel) (by decide +kernel) [] (by decide +kernel) (by decide +kernel)
theorem zs_X5_go : zmside ze_X5_go = true := by decide +kernel
set_option maxRecDepth 100000 in
theorem zm_X5_go : ∀ w ∈ zmwords ze_X5_go, w ∈ zTG := zmw_of 1472 rfl [1470, 1471, 58] (by decide +kernel) (by decide +kernel)
theorem zk_X5_goesOne : zOkC zprog zst zTG zTN ze_X5_goesOne := zOkC_of (by decide +kernel) [964, 951, 954, 951, 954, 1477, 1428] (by decide +kernel) (by decide +kernel) [] (by decide +kernel) (by decide +kernel)
theorem zs_X5_goesOne : zmside ze_X5_goesOne = true := by decide +kernel
set_option maxRecDepth 100000 in
theorem zm_X5_goesOne : ∀ w ∈ zmwords ze_X5_goesOne, w ∈ zTG := zmw_of 1476 rfl [1475, 49, 58] (by decide +kernel) (by decide +kernel)
theorem zk_X5_guess : zOkC zprog zst zTG zTN ze_X5_guess := zOkC_of (by decide +kernel) [1072, 1069, 1069, 1074, 949, 1391, 1074] (by decide +kernel) (by decide +kernel) [] (by decide +kernel) (by decide +kernel)
theorem zs_X5_guess : zmside ze_X5_guess = true := by decide +kernel
set_option maxRecDepth 100000 in
theorem zm_X5_guess : ∀ w ∈ zmwords ze_X5_guess, w ∈ zTG := zmw_of 1398 rfl [1396, 1397, 58] (by decide +kernel) (by decide +kernel)
theorem zk_X5_holds : zOkC zprog zst zTG zTN ze_X5_holds := zOkC_of (by decide +kernel) [1068, 1069, 940, 940, 941, 945] (by decide +kernel) (by decide +kernel) [] (by decide +kernel) (by decide +kernel)
theorem zs_X5_holds : zmside ze_X5_holds = true := by decide +kernel
set_option maxRecDepth 100000 in
theorem zm_X5_holds : ∀ w ∈ zmwords ze_X5_holds, w ∈ zTG := zmw_of 1100 rfl [1098, 1099, 58] (by decide +kernel) (by decide +kernel)
theorem zk_X5_image : zOkC zprog zst zTG zTN ze_X5_image := zOkC_of (by decide +kernel) [966, 1206, 931, 58, 1207, 966, 966, 1208] (by decide +kernel) (by decide +kernel) [] (by decide +kernel) (by decide +kernel)
theorem zs_X5_image : zmside ze_X5_image = true := by decide +kernel
set_option maxRecDepth 100000 in
theorem zm_X5_image : ∀ w ∈ zmwords ze_X5_image, w ∈ zTG := zmw_of 1505 rfl [1503, 1504, 58] (by decide +kernel) (by decide +kernel)
theorem zk_X5_in : zOkC zprog zst zTG zTN ze_X5_in := zOkC_of (by decide +kernel) [] (by decide +kernel) (by decide +kernel) [] (by decide +kernel) (by decide +kernel)
theorem zs_X5_in : zmside ze_X5_in = true := by decide +kernel
set_option maxRecDepth 100000 in
theorem zm_X5_in : ∀ w ∈ zmwords ze_X5_in, w ∈ zTG := zmw_of 1071 rfl [1070, 58] (by decide +kernel) (by decide +kernel)
theorem zk_X5_init : zOkC zprog zst zTG zTN ze_X5_init := zOkC_of (by decide +kernel) [935, 165, 940, 165, 941, 165, 942, 936, 241, 943, 241, 944, 165, 945, 165, 946, 165, 948, 949, 950, 951, 952, 955, 165, 956, 165, 958, 165, 959, 165, 960, 165, 961, 165, 962, 165, 964, 938, 165, 965, 165, 973] (by decide +kernel) (by decide +kernel) [] (by decide +kernel) (by decide +kernel)
theorem zs_X5_init : zmside ze_X5_init = true := by decide +kernel
set_option maxRecDepth 100000 in
theorem zm_X5_init : ∀ w ∈ zmwords ze_X5_init, w ∈ zTG := zmw_of 934 rfl [933, 58] (by decide +kernel) (by decide +kernel)
theorem zk_X5_inside : zOkC zprog zst zTG zTN ze_X5_inside := zOkC_of (by decide +kernel) [949, 956] (by decide +kernel) (by decide +kernel) [] (by decide +kernel) (by decide +kernel)
theorem zs_X5_inside : zmside ze_X5_inside = true := by decide +kernel
set_option maxRecDepth 100000 in
theorem zm_X5_inside : ∀ w ∈ zmwords ze_X5_inside, w ∈ zTG := zmw_of 1128 rfl [1127, 11, 58] (by decide +kernel) (by decide +kernel)
theorem zk_X5_judge : zOkC zprog zst zTG zTN ze_X5_judge := zOkC_of (by decide +kernel) [1420, 943, 1424] (by decide +kernel) (by decide +kernel) [] (by decide +kernel) (by decide +kernel)
theorem zs_X5_judge : zmside ze_X5_judge = true := by decide +kernel
set_option maxRecDepth 100000 in
theorem zm_X5_judge : ∀ w ∈ zmwords ze_X5_judge, w ∈ zTG := zmw_of 1419 rfl [1417, 1418, 58] (by decide +kernel) (by decide +kernel)
theorem zk_X5_left : zOkC zprog zst zTG zTN ze_X5_left := zOkC_of (by decide +kernel) [1125, 1069, 1074, 957, 962, 958, 958, 958, 1074] (by decide +kernel) (by decide +kernel) [] (by decide +kernel) (by decide +kernel)
theorem zs_X5_left : zmside ze_X5_left = true := by decide +kernel
set_option maxRecDepth 100000 in
theorem zm_X5_left : ∀ w ∈ zmwords ze_X5_left, w ∈ zTG := zmw_of 1415 rfl [1413, 1414, 58] (by decide +kernel) (by decide +kernel)
theorem zk_X5_liked : zOkC zprog zst zTG zTN ze_X5_liked := zOkC_of (by decide +kernel) [957, 965] (by decide +kernel) (by decide +kernel) [] (by decide +kernel) (by decide +kernel)
theorem zs_X5_liked : zmside ze_X5_liked = true := by decide +kernel
set_option maxRecDepth 100000 in
theorem zm_X5_liked : ∀ w ∈ zmwords ze_X5_liked, w ∈ zTG := zmw_of 1287 rfl [1286, 31, 58] (by decide +kernel) (by decide +kernel)
theorem zk_X5_likes : zOkC zprog zst zTG zTN ze_X5_likes := zOkC_of (by decide +kernel) [1180, 1105, 1184, 1069, 1074, 965, 965] (by decide +kernel) (by decide +kernel) [] (by decide +kernel) (by decide +kernel)
theorem zs_X5_likes : zmside ze_X5_likes = true := by decide +kernel
set_option maxRecDepth 100000 in
theorem zm_X5_likes : ∀ w ∈ zmwords ze_X5_likes, w ∈ zTG := zmw_of 1179 rfl [1177, 1178, 58] (by decide +kernel) (by decide +kernel)
theorem zk_X5_look : zOkC zprog zst zTG zTN ze_X5_look := zOkC_of (by decide +kernel) [968, 947, 946, 968, 968, 968, 968, 970, 971, 968, 947, 969, 946, 968, 1223, 969, 968, 947, 946, 968, 1223, 968, 968, 946, 968, 1226, 969, 968, 947, 946, 968, 1226, 968, 970, 971, 946, 968, 1229, 971, 968, 968, 946, 968, 969, 968, 968] (by decide +kernel) (by decide +kernel) [] (by decide +kernel) (by decide +kernel)
theorem zs_X5_look : zmside ze_X5_look = true := by decide +kernel
set_option maxRecDepth 100000 in
theorem zm_X5_look : ∀ w ∈ zmwords ze_X5_look, w ∈ zTG := zmw_of 1222 rfl [1221, 21, 58] (by decide +kernel) (by decide +kernel)
theorem zk_X5_mean : zOkC zprog zst zTG zTN ze_X5_mean := zOkC_of (by decide +kernel) [1180, 1361, 1069, 1362, 1074] (by decide +kernel) (by decide +kernel) [] (by decide +kernel) (by decide +kernel)
theorem zs_X5_mean : zmside ze_X5_mean = true := by decide +kernel
set_option maxRecDepth 100000 in
theorem zm_X5_mean : ∀ w ∈ zmwords ze_X5_mean, w ∈ zTG := zmw_of 1360 rfl [1358, 1359, 58] (by decide +kernel) (by decide +kernel)
