theorem zk_X5_status : zOkC zprog zst zTG zTN ze_X5_status := zOkC_of (by decide +kernel) [949, 950, 1125, 953, 957, 1117, 963, 954, 947, 955, 940, 1292, 1514, 1515, 1069, 948] (by decide +kernel) (by decide +kernel) [] (by decide +kernel) (by decide +kernel)
theorem zs_X5_status : zmside ze_X5_status = true := by decide +kernel
set_option maxRecDepth 100000 in
theorem zm_X5_status : ∀ w ∈ zmwords ze_X5_status, w ∈ zTG := zmw_of 1513 rfl [1511, 1512, 58] (by decide +kernel) (by decide +kernel)
theorem zk_X4_booked : zOkC zprog zst zTG zTN ze_X4_booked := zOkC_of (by decide +kernel) [242, 461, 277] (by decide +kernel) (by decide +kernel) [] (by decide +kernel) (by decide +kernel)
theorem zs_X4_booked : zmside ze_X4_booked = true := by decide +kernel
set_option maxRecDepth 100000 in
theorem zm_X4_booked : ∀ w ∈ zmwords ze_X4_booked, w ∈ zTG := zmw_of 841 rfl [839, 840, 53] (by decide +kernel) (by decide +kernel)
theorem zk_X5_booked : zOkC zprog zst zTG zTN ze_X5_booked := zOkC_of (by decide +kernel) [1068, 1069, 1073, 1069, 1180, 1074] (by decide +kernel) (by decide +kernel) [] (by decide +kernel) (by decide +kernel)
theorem zs_X5_booked : zmside ze_X5_booked = true := by decide +kernel
set_option maxRecDepth 100000 in
theorem zm_X5_booked : ∀ w ∈ zmwords ze_X5_booked, w ∈ zTG := zmw_of 1439 rfl [1437, 1438, 58] (by decide +kernel) (by decide +kernel)
theorem zk_X4_price : zOkC zprog zst zTG zTN ze_X4_price := zOkC_of (by decide +kernel) [274, 242, 98, 242, 98, 274, 242, 101, 242, 101, 277] (by decide +kernel) (by decide +kernel) [] (by decide +kernel) (by decide +kernel)
theorem zs_X4_price : zmside ze_X4_price = true := by decide +kernel
set_option maxRecDepth 100000 in
theorem zm_X4_price : ∀ w ∈ zmwords ze_X4_price, w ∈ zTG := zmw_of 420 rfl [418, 419, 53] (by decide +kernel) (by decide +kernel)
theorem zk_X5_price : zOkC zprog zst zTG zTN ze_X5_price := zOkC_of (by decide +kernel) [1069, 1148, 1149, 1069, 1074, 951, 952, 951, 951, 952, 952] (by decide +kernel) (by decide +kernel) [] (by decide +kernel) (by decide +kernel)
theorem zs_X5_price : zmside ze_X5_price = true := by decide +kernel
set_option maxRecDepth 100000 in
theorem zm_X5_price : ∀ w ∈ zmwords ze_X5_price, w ∈ zTG := zmw_of 1147 rfl [1145, 1146, 58] (by decide +kernel) (by decide +kernel)
theorem zk_X5_suspected : zOkC zprog zst zTG zTN ze_X5_suspected := zOkC_of (by decide +kernel) [1406] (by decide +kernel) (by decide +kernel) [] (by decide +kernel) (by decide +kernel)
theorem zs_X5_suspected : zmside ze_X5_suspected = true := by decide +kernel
set_option maxRecDepth 100000 in
theorem zm_X5_suspected : ∀ w ∈ zmwords ze_X5_suspected, w ∈ zTG := zmw_of 1405 rfl [1404, 58] (by decide +kernel) (by decide +kernel)
theorem zk_X4_sureness : zOkC zprog zst zTG zTN ze_X4_sureness := zOkC_of (by decide +kernel) [801] (by decide +kernel) (by decide +kernel) [] (by decide +kernel) (by decide +kernel)
theorem zs_X4_sureness : zmside ze_X4_sureness = true := by decide +kernel
set_option maxRecDepth 100000 in
theorem zm_X4_sureness : ∀ w ∈ zmwords ze_X4_sureness, w ∈ zTG := zmw_of 800 rfl [799, 53] (by decide +kernel) (by decide +kernel)
theorem zk_X4_set : zOkC zprog zst zTG zTN ze_X4_set := zOkC_of (by decide +kernel) [271, 277, 247, 289, 277] (by decide +kernel) (by decide +kernel) [] (by decide +kernel) (by decide +kernel)
theorem zs_X4_set : zmside ze_X4_set = true := by decide +kernel
set_option maxRecDepth 100000 in
theorem zm_X4_set : ∀ w ∈ zmwords ze_X4_set, w ∈ zTG := zmw_of 288 rfl [286, 287, 53] (by decide +kernel) (by decide +kernel)
theorem zk_X5_set : zOkC zprog zst zTG zTN ze_X5_set := zOkC_of (by decide +kernel) [1082] (by decide +kernel) (by decide +kernel) [] (by decide +kernel) (by decide +kernel)
theorem zs_X5_set : zmside ze_X5_set = true := by decide +kernel
set_option maxRecDepth 100000 in
theorem zm_X5_set : ∀ w ∈ zmwords ze_X5_set, w ∈ zTG := zmw_of 1081 rfl [1079, 1080, 58] (by decide +kernel) (by decide +kernel)
theorem zk_X4_element : zOkC zprog zst zTG zTN ze_X4_element := zOkC_of (by decide +kernel) [271, 247, 298] (by decide +kernel) (by decide +kernel) [] (by decide +kernel) (by decide +kernel)
theorem zs_X4_element : zmside ze_X4_element = true := by decide +kernel
set_option maxRecDepth 100000 in
theorem zm_X4_element : ∀ w ∈ zmwords ze_X4_element, w ∈ zTG := zmw_of 326 rfl [324, 325, 53] (by decide +kernel) (by decide +kernel)
theorem zk_X5_element : zOkC zprog zst zTG zTN ze_X5_element := zOkC_of (by decide +kernel) [1068, 1069, 940] (by decide +kernel) (by decide +kernel) [] (by decide +kernel) (by decide +kernel)
theorem zs_X5_element : zmside ze_X5_element = true := by decide +kernel
set_option maxRecDepth 100000 in
theorem zm_X5_element : ∀ w ∈ zmwords ze_X5_element, w ∈ zTG := zmw_of 1096 rfl [1094, 1095, 58] (by decide +kernel) (by decide +kernel)
theorem zk_X4_holds : zOkC zprog zst zTG zTN ze_X4_holds := zOkC_of (by decide +kernel) [271, 247, 229] (by decide +kernel) (by decide +kernel) [] (by decide +kernel) (by decide +kernel)
theorem zs_X4_holds : zmside ze_X4_holds = true := by decide +kernel
set_option maxRecDepth 100000 in
theorem zm_X4_holds : ∀ w ∈ zmwords ze_X4_holds, w ∈ zTG := zmw_of 330 rfl [328, 329, 53] (by decide +kernel) (by decide +kernel)
theorem zk_X5_holds : zOkC zprog zst zTG zTN ze_X5_holds := zOkC_of (by decide +kernel) [1068, 1069, 940] (by decide +kernel) (by decide +kernel) [] (by decide +kernel) (by decide +kernel)
theorem zs_X5_holds : zmside ze_X5_holds = true := by decide +kernel
set_option maxRecDepth 100000 in
theorem zm_X5_holds : ∀ w ∈ zmwords ze_X5_holds, w ∈ zTG := zmw_of 1100 rfl [1098, 1099, 58] (by decide +kernel) (by decide +kernel)
theorem zk_X5_init : zOkC zprog zst zTG zTN ze_X5_init := zOkC_of (by decide +kernel) [935, 165, 940, 165, 941, 165, 942, 936, 241, 943, 241, 944, 165, 945, 165, 946, 165, 948, 949, 950, 951, 952, 955, 165, 956, 165, 958, 165, 959, 165, 960, 165, 961, 165, 962, 165, 964, 938, 165, 965, 165, 973] (by decide +kernel) (by decide +kernel) [] (by decide +kernel) (by decide +kernel)
theorem zs_X5_init : zmside ze_X5_init = true := by decide +kernel
set_option maxRecDepth 100000 in
theorem zm_X5_init : ∀ w ∈ zmwords ze_X5_init, w ∈ zTG := zmw_of 934 rfl [933, 58] (by decide +kernel) (by decide +kernel)
theorem zk_X0_putRow : zOkC zprog zst zTG zTN ze_X0_putRow := zOkC_of (by decide +kernel) [228, 230, 232] (by decide +kernel) (by decide +kernel) [] (by decide +kernel) (by decide +kernel)
theorem zs_X0_putRow : zmside ze_X0_putRow = true := by decide +kernel
set_option maxRecDepth 100000 in
theorem zm_X0_putRow : ∀ w ∈ zmwords ze_X0_putRow, w ∈ zTG := zmw_of 284 rfl [282, 283, 57] (by decide +kernel) (by decide +kernel)
theorem zk_X0_hasElement : zOkC zprog zst zTG zTN ze_X0_hasElement := zOkC_of (by decide +kernel) [293] (by decide +kernel) (by decide +kernel) [] (by decide +kernel) (by decide +kernel)
theorem zs_X0_hasElement : zmside ze_X0_hasElement = true := by decide +kernel
set_option maxRecDepth 100000 in
theorem zm_X0_hasElement : ∀ w ∈ zmwords ze_X0_hasElement, w ∈ zTG := zmw_of 301 rfl [299, 300, 57] (by decide +kernel) (by decide +kernel)
theorem zk_X4_init : zOkC zprog zst zTG zTN ze_X4_init := zOkC_of (by decide +kernel) [72, 75, 76, 54, 77, 242, 75, 76, 54, 77, 243, 75, 76, 54, 77, 244, 166, 167, 55, 245, 194, 195, 56, 246, 221, 247, 165, 248, 249, 247, 221, 223, 57] (by decide +kernel) (by decide +kernel) [168, 196, 224] (by decide +kernel) (by decide +kernel)
theorem zs_X4_init : zmside ze_X4_init = true := by decide +kernel
set_option maxRecDepth 100000 in
theorem zm_X4_init : ∀ w ∈ zmwords ze_X4_init, w ∈ zTG := zmw_of 71 rfl [70, 53] (by decide +kernel) (by decide +kernel)
theorem zk_X3_init : zOkC zprog zst zTG zTN ze_X3_init := zOkC_of (by decide +kernel) [171, 165, 172, 165, 173, 165, 174, 175, 176, 177, 178] (by decide +kernel) (by decide +kernel) [] (by decide +kernel) (by decide +kernel)
theorem zs_X3_init : zmside ze_X3_init = true := by decide +kernel
set_option maxRecDepth 100000 in
theorem zm_X3_init : ∀ w ∈ zmwords ze_X3_init, w ∈ zTG := zmw_of 170 rfl [169, 55] (by decide +kernel) (by decide +kernel)
theorem zk_X2_init : zOkC zprog zst zTG zTN ze_X2_init := zOkC_of (by decide +kernel) [199, 165, 200, 202, 204, 205, 206, 207] (by decide +kernel) (by decide +kernel) [] (by decide +kernel) (by decide +kernel)
theorem zs_X2_init : zmside ze_X2_init = true := by decide +kernel
set_option maxRecDepth 100000 in
theorem zm_X2_init : ∀ w ∈ zmwords ze_X2_init, w ∈ zTG := zmw_of 198 rfl [197, 56] (by decide +kernel) (by decide +kernel)
theorem zk_X2_isWord : zOkC zprog zst zTG zTN ze_X2_isWord := zOkC_of (by decide +kernel) [515, 204] (by decide +kernel) (by decide +kernel) [] (by decide +kernel) (by decide +kernel)
theorem zs_X2_isWord : zmside ze_X2_isWord = true := by decide +kernel
set_option maxRecDepth 100000 in
theorem zm_X2_isWord : ∀ w ∈ zmwords ze_X2_isWord, w ∈ zTG := zmw_of 514 rfl [512, 513, 56] (by decide +kernel) (by decide +kernel)
theorem zk_X5_isWord : zOkC zprog zst zTG zTN ze_X5_isWord := zOkC_of (by decide +kernel) [969] (by decide +kernel) (by decide +kernel) [] (by decide +kernel) (by decide +kernel)
theorem zs_X5_isWord : zmside ze_X5_isWord = true := by decide +kernel
set_option maxRecDepth 100000 in
theorem zm_X5_isWord : ∀ w ∈ zmwords ze_X5_isWord, w ∈ zTG := zmw_of 1238 rfl [1237, 23, 58] (by decide +kernel) (by decide +kernel)
theorem zk_X4_sure : zOkC zprog zst zTG zTN ze_X4_sure := zOkC_of (by decide +kernel) [274, 801, 274, 277, 798] (by decide +kernel) (by decide +kernel) [] (by decide +kernel) (by decide +kernel)
theorem zs_X4_sure : zmside ze_X4_sure = true := by decide +kernel
set_option maxRecDepth 100000 in
theorem zm_X4_sure : ∀ w ∈ zmwords ze_X4_sure, w ∈ zTG := zmw_of 805 rfl [803, 804, 53] (by decide +kernel) (by decide +kernel)
theorem zk_X5_sure : zOkC zprog zst zTG zTN ze_X5_sure := zOkC_of (by decide +kernel) [1133, 1069, 1411, 1069, 1074, 1403] (by decide +kernel) (by decide +kernel) [] (by decide +kernel) (by decide +kernel)
theorem zs_X5_sure : zmside ze_X5_sure = true := by decide +kernel
set_option maxRecDepth 100000 in
theorem zm_X5_sure : ∀ w ∈ zmwords ze_X5_sure, w ∈ zTG := zmw_of 1410 rfl [1408, 1409, 58] (by decide +kernel) (by decide +kernel)
theorem zk_X4_suspect : zOkC zprog zst zTG zTN ze_X4_suspect := zOkC_of (by decide +kernel) [274, 274, 277, 798] (by decide +kernel) (by decide +kernel) [] (by decide +kernel) (by decide +kernel)
theorem zs_X4_suspect : zmside ze_X4_suspect = true := by decide +kernel
set_option maxRecDepth 100000 in
theorem zm_X4_suspect : ∀ w ∈ zmwords ze_X4_suspect, w ∈ zTG := zmw_of 797 rfl [795, 796, 53] (by decide +kernel) (by decide +kernel)
theorem zk_X5_suspect : zOkC zprog zst zTG zTN ze_X5_suspect := zOkC_of (by decide +kernel) [1133, 1069, 1069, 1403, 1074] (by decide +kernel) (by decide +kernel) [] (by decide +kernel) (by decide +kernel)
theorem zs_X5_suspect : zmside ze_X5_suspect = true := by decide +kernel
set_option maxRecDepth 100000 in
theorem zm_X5_suspect : ∀ w ∈ zmwords ze_X5_suspect, w ∈ zTG := zmw_of 1402 rfl [1400, 1401, 58] (by decide +kernel) (by decide +kernel)
theorem zk_X1_isFreeForThing : zOkC zprog zst zTG zTN ze_X1_isFreeForThing := zOkC_of (by decide +kernel) [437, 441] (by decide +kernel) (by decide +kernel) [] (by decide +kernel) (by decide +kernel)
theorem zs_X1_isFreeForThing : zmside ze_X1_isFreeForThing = true := by decide +kernel
set_option maxRecDepth 100000 in
theorem zm_X1_isFreeForThing : ∀ w ∈ zmwords ze_X1_isFreeForThing, w ∈ zTG := zmw_of 436 rfl [434, 435, 54] (by decide +kernel) (by decide +kernel)
theorem zk_X1_addThing : zOkC zprog zst zTG zTN ze_X1_addThing := zOkC_of (by decide +kernel) [110, 114, 116, 118, 120, 122, 110, 110] (by decide +kernel) (by decide +kernel) [] (by decide +kernel) (by decide +kernel)
theorem zs_X1_addThing : zmside ze_X1_addThing = true := by decide +kernel
set_option maxRecDepth 100000 in
theorem zm_X1_addThing : ∀ w ∈ zmwords ze_X1_addThing, w ∈ zTG := zmw_of 448 rfl [446, 447, 54] (by decide +kernel) (by decide +kernel)
theorem zk_X5_addThing : zOkC zprog zst zTG zTN ze_X5_addThing := zOkC_of (by decide +kernel) [958, 957, 959, 957, 960, 957, 961, 957, 962, 957, 965, 957, 957, 957] (by decide +kernel) (by decide +kernel) [] (by decide +kernel) (by decide +kernel)
theorem zs_X5_addThing : zmside ze_X5_addThing = true := by decide +kernel
set_option maxRecDepth 100000 in
theorem zm_X5_addThing : ∀ w ∈ zmwords ze_X5_addThing, w ∈ zTG := zmw_of 1166 rfl [1165, 15, 58] (by decide +kernel) (by decide +kernel)
theorem zk_X1_standing : zOkC zprog zst zTG zTN ze_X1_standing := zOkC_of (by decide +kernel) [366] (by decide +kernel) (by decide +kernel) [] (by decide +kernel) (by decide +kernel)
theorem zs_X1_standing : zmside ze_X1_standing = true := by decide +kernel
set_option maxRecDepth 100000 in
theorem zm_X1_standing : ∀ w ∈ zmwords ze_X1_standing, w ∈ zTG := zmw_of 365 rfl [363, 364, 54] (by decide +kernel) (by decide +kernel)
theorem zk_X1_thingsOwnedBy : zOkC zprog zst zTG zTN ze_X1_thingsOwnedBy := zOkC_of (by decide +kernel) [110] (by decide +kernel) (by decide +kernel) [] (by decide +kernel) (by decide +kernel)
theorem zs_X1_thingsOwnedBy : zmside ze_X1_thingsOwnedBy = true := by decide +kernel
set_option maxRecDepth 100000 in
theorem zm_X1_thingsOwnedBy : ∀ w ∈ zmwords ze_X1_thingsOwnedBy, w ∈ zTG := zmw_of 369 rfl [367, 368, 54] (by decide +kernel) (by decide +kernel)
theorem zk_X4_slips : zOkC zprog zst zTG zTN ze_X4_slips := zOkC_of (by decide +kernel) [274, 277, 242, 113, 242, 91, 242, 412] (by decide +kernel) (by decide +kernel) [] (by decide +kernel) (by decide +kernel)
theorem zs_X4_slips : zmside ze_X4_slips = true := by decide +kernel
set_option maxRecDepth 100000 in
theorem zm_X4_slips : ∀ w ∈ zmwords ze_X4_slips, w ∈ zTG := zmw_of 411 rfl [409, 410, 53] (by decide +kernel) (by decide +kernel)
theorem zk_X5_slips : zOkC zprog zst zTG zTN ze_X5_slips := zOkC_of (by decide +kernel) [1133, 1069, 1074, 957, 949, 1134] (by decide +kernel) (by decide +kernel) [] (by decide +kernel) (by decide +kernel)
theorem zs_X5_slips : zmside ze_X5_slips = true := by decide +kernel
set_option maxRecDepth 100000 in
theorem zm_X5_slips : ∀ w ∈ zmwords ze_X5_slips, w ∈ zTG := zmw_of 1132 rfl [1130, 1131, 58] (by decide +kernel) (by decide +kernel)
theorem zk_X4_rule : zOkC zprog zst zTG zTN ze_X4_rule := zOkC_of (by decide +kernel) [274, 277, 242, 113, 242, 94, 242, 94] (by decide +kernel) (by decide +kernel) [] (by decide +kernel) (by decide +kernel)
theorem zs_X4_rule : zmside ze_X4_rule = true := by decide +kernel
set_option maxRecDepth 100000 in
theorem zm_X4_rule : ∀ w ∈ zmwords ze_X4_rule, w ∈ zTG := zmw_of 416 rfl [414, 415, 53] (by decide +kernel) (by decide +kernel)
theorem zk_X5_rule : zOkC zprog zst zTG zTN ze_X5_rule := zOkC_of (by decide +kernel) [1142, 1143, 1069, 1074, 957, 950, 950] (by decide +kernel) (by decide +kernel) [] (by decide +kernel) (by decide +kernel)
theorem zs_X5_rule : zmside ze_X5_rule = true := by decide +kernel
set_option maxRecDepth 100000 in
theorem zm_X5_rule : ∀ w ∈ zmwords ze_X5_rule, w ∈ zTG := zmw_of 1141 rfl [1139, 1140, 58] (by decide +kernel) (by decide +kernel)
theorem zk_X4_buyer : zOkC zprog zst zTG zTN ze_X4_buyer := zOkC_of (by decide +kernel) [274, 277, 242, 126, 242, 453] (by decide +kernel) (by decide +kernel) [] (by decide +kernel) (by decide +kernel)
theorem zs_X4_buyer : zmside ze_X4_buyer = true := by decide +kernel
set_option maxRecDepth 100000 in
theorem zm_X4_buyer : ∀ w ∈ zmwords ze_X4_buyer, w ∈ zTG := zmw_of 452 rfl [450, 451, 53] (by decide +kernel) (by decide +kernel)
theorem zk_X5_buyer : zOkC zprog zst zTG zTN ze_X5_buyer := zOkC_of (by decide +kernel) [1171, 1069, 1074, 963, 1172, 963] (by decide +kernel) (by decide +kernel) [] (by decide +kernel) (by decide +kernel)
theorem zs_X5_buyer : zmside ze_X5_buyer = true := by decide +kernel
set_option maxRecDepth 100000 in
theorem zm_X5_buyer : ∀ w ∈ zmwords ze_X5_buyer, w ∈ zTG := zmw_of 1170 rfl [1168, 1169, 58] (by decide +kernel) (by decide +kernel)
theorem zk_X4_feed : zOkC zprog zst zTG zTN ze_X4_feed := zOkC_of (by decide +kernel) [274, 277, 246, 203, 246, 201, 246, 203, 246, 203, 203, 246, 203] (by decide +kernel) (by decide +kernel) [] (by decide +kernel) (by decide +kernel)
theorem zs_X4_feed : zmside ze_X4_feed = true := by decide +kernel
set_option maxRecDepth 100000 in
theorem zm_X4_feed : ∀ w ∈ zmwords ze_X4_feed, w ∈ zTG := zmw_of 474 rfl [472, 473, 53] (by decide +kernel) (by decide +kernel)
theorem zk_X5_feed : zOkC zprog zst zTG zTN ze_X5_feed := zOkC_of (by decide +kernel) [1193, 1069, 1074, 947, 946, 947, 947, 947] (by decide +kernel) (by decide +kernel) [] (by decide +kernel) (by decide +kernel)
theorem zs_X5_feed : zmside ze_X5_feed = true := by decide +kernel
set_option maxRecDepth 100000 in
theorem zm_X5_feed : ∀ w ∈ zmwords ze_X5_feed, w ∈ zTG := zmw_of 1192 rfl [1190, 1191, 58] (by decide +kernel) (by decide +kernel)
theorem zk_X5_takeFrom : zOkC zprog zst zTG zTN ze_X5_takeFrom := zOkC_of (by decide +kernel) [949, 949, 950, 950, 951, 951, 952, 952, 953, 953, 954, 954, 955, 955, 956, 956, 1212, 957, 957, 958, 958, 1212, 959, 959, 1212, 960, 960, 1212, 961, 961, 1212, 962, 962, 1212, 963, 963, 964, 964, 1212, 965, 965, 1212] (by decide +kernel) (by decide +kernel) [] (by decide +kernel) (by decide +kernel)
theorem zs_X5_takeFrom : zmside ze_X5_takeFrom = true := by decide +kernel
set_option maxRecDepth 100000 in
theorem zm_X5_takeFrom : ∀ w ∈ zmwords ze_X5_takeFrom, w ∈ zTG := zmw_of 1211 rfl [1210, 19, 58] (by decide +kernel) (by decide +kernel)
theorem zk_J6_bitCount_0f7a4 : zOkC zprog zst zTG zTN ze_J6_bitCount_0f7a4 := zOkC_of (by decide +kernel) [659, 660, 660, 661] (by decide +kernel) (by decide +kernel) [] (by decide +kernel) (by decide +kernel)
theorem zs_J6_bitCount_0f7a4 : zmside ze_J6_bitCount_0f7a4 = true := by decide +kernel
set_option maxRecDepth 100000 in
theorem zm_J6_bitCount_0f7a4 : ∀ w ∈ zmwords ze_J6_bitCount_0f7a4, w ∈ zTG := zmw_of 658 rfl [657, 66] (by decide +kernel) (by decide +kernel)
theorem zk_X4_takings : zOkC zprog zst zTG zTN ze_X4_takings := zOkC_of (by decide +kernel) [274, 242, 772, 277] (by decide +kernel) (by decide +kernel) [] (by decide +kernel) (by decide +kernel)
theorem zs_X4_takings : zmside ze_X4_takings = true := by decide +kernel
set_option maxRecDepth 100000 in
theorem zm_X4_takings : ∀ w ∈ zmwords ze_X4_takings, w ∈ zTG := zmw_of 771 rfl [769, 770, 53] (by decide +kernel) (by decide +kernel)
theorem zk_X5_takings : zOkC zprog zst zTG zTN ze_X5_takings := zOkC_of (by decide +kernel) [1148, 1069, 1379, 1074] (by decide +kernel) (by decide +kernel) [] (by decide +kernel) (by decide +kernel)
theorem zs_X5_takings : zmside ze_X5_takings = true := by decide +kernel
set_option maxRecDepth 100000 in
theorem zm_X5_takings : ∀ w ∈ zmwords ze_X5_takings, w ∈ zTG := zmw_of 1378 rfl [1376, 1377, 58] (by decide +kernel) (by decide +kernel)
theorem zk_X4_left : zOkC zprog zst zTG zTN ze_X4_left := zOkC_of (by decide +kernel) [242, 741, 274, 277, 242, 631, 242, 810, 242, 810, 742] (by decide +kernel) (by decide +kernel) [] (by decide +kernel) (by decide +kernel)
theorem zs_X4_left : zmside ze_X4_left = true := by decide +kernel
set_option maxRecDepth 100000 in
theorem zm_X4_left : ∀ w ∈ zmwords ze_X4_left, w ∈ zTG := zmw_of 809 rfl [807, 808, 53] (by decide +kernel) (by decide +kernel)
theorem zk_X5_left : zOkC zprog zst zTG zTN ze_X5_left := zOkC_of (by decide +kernel) [1125, 1069, 1074, 957] (by decide +kernel) (by decide +kernel) [] (by decide +kernel) (by decide +kernel)
theorem zs_X5_left : zmside ze_X5_left = true := by decide +kernel
set_option maxRecDepth 100000 in
theorem zm_X5_left : ∀ w ∈ zmwords ze_X5_left, w ∈ zTG := zmw_of 1415 rfl [1413, 1414, 58] (by decide +kernel) (by decide +kernel)
theorem zk_X4_fete : zOkC zprog zst zTG zTN ze_X4_fete := zOkC_of (by decide +kernel) [274, 242, 906, 277] (by decide +kernel) (by decide +kernel) [] (by decide +kernel) (by decide +kernel)
theorem zs_X4_fete : zmside ze_X4_fete = true := by decide +kernel
set_option maxRecDepth 100000 in
theorem zm_X4_fete : ∀ w ∈ zmwords ze_X4_fete, w ∈ zTG := zmw_of 905 rfl [903, 904, 53] (by decide +kernel) (by decide +kernel)
theorem zk_X5_fete : zOkC zprog zst zTG zTN ze_X5_fete := zOkC_of (by decide +kernel) [1352, 1069, 1074, 956, 953, 957] (by decide +kernel) (by decide +kernel) [] (by decide +kernel) (by decide +kernel)
theorem zs_X5_fete : zmside ze_X5_fete = true := by decide +kernel
set_option maxRecDepth 100000 in
theorem zm_X5_fete : ∀ w ∈ zmwords ze_X5_fete, w ∈ zTG := zmw_of 1497 rfl [1495, 1496, 58] (by decide +kernel) (by decide +kernel)
theorem zk_X4_likes : zOkC zprog zst zTG zTN ze_X4_likes := zOkC_of (by decide +kernel) [242, 461, 277] (by decide +kernel) (by decide +kernel) [] (by decide +kernel) (by decide +kernel)
theorem zs_X4_likes : zmside ze_X4_likes = true := by decide +kernel
set_option maxRecDepth 100000 in
theorem zm_X4_likes : ∀ w ∈ zmwords ze_X4_likes, w ∈ zTG := zmw_of 460 rfl [458, 459, 53] (by decide +kernel) (by decide +kernel)
theorem zk_X5_likes : zOkC zprog zst zTG zTN ze_X5_likes := zOkC_of (by decide +kernel) [1180, 1074] (by decide +kernel) (by decide +kernel) [] (by decide +kernel) (by decide +kernel)
theorem zs_X5_likes : zmside ze_X5_likes = true := by decide +kernel
set_option maxRecDepth 100000 in
theorem zm_X5_likes : ∀ w ∈ zmwords ze_X5_likes, w ∈ zTG := zmw_of 1179 rfl [1177, 1178, 58] (by decide +kernel) (by decide +kernel)
theorem zk_X4_purse : zOkC zprog zst zTG zTN ze_X4_purse := zOkC_of (by decide +kernel) [242, 461, 277] (by decide +kernel) (by decide +kernel) [] (by decide +kernel) (by decide +kernel)
theorem zs_X4_purse : zmside ze_X4_purse = true := by decide +kernel
set_option maxRecDepth 100000 in
theorem zm_X4_purse : ∀ w ∈ zmwords ze_X4_purse, w ∈ zTG := zmw_of 470 rfl [468, 469, 53] (by decide +kernel) (by decide +kernel)
theorem zk_X5_purse : zOkC zprog zst zTG zTN ze_X5_purse := zOkC_of (by decide +kernel) [1180, 1074] (by decide +kernel) (by decide +kernel) [] (by decide +kernel) (by decide +kernel)
theorem zs_X5_purse : zmside ze_X5_purse = true := by decide +kernel
set_option maxRecDepth 100000 in
theorem zm_X5_purse : ∀ w ∈ zmwords ze_X5_purse, w ∈ zTG := zmw_of 1188 rfl [1186, 1187, 58] (by decide +kernel) (by decide +kernel)
theorem zk_X1_become : zOkC zprog zst zTG zTN ze_X1_become := zOkC_of (by decide +kernel) [89, 89, 92, 92, 95, 95, 99, 99, 102, 102, 105, 105, 107, 107, 109, 109, 110, 110, 114, 114, 487, 116, 116, 487, 118, 118, 487, 120, 120, 487, 122, 122, 487, 124, 124, 127, 127, 487, 129, 129, 487] (by decide +kernel) (by decide +kernel) [] (by decide +kernel) (by decide +kernel)
theorem zs_X1_become : zmside ze_X1_become = true := by decide +kernel
set_option maxRecDepth 100000 in
theorem zm_X1_become : ∀ w ∈ zmwords ze_X1_become, w ∈ zTG := zmw_of 486 rfl [484, 485, 54] (by decide +kernel) (by decide +kernel)
theorem zk_X4_thingOf : zOkC zprog zst zTG zTN ze_X4_thingOf := zOkC_of (by decide +kernel) [242, 335, 277] (by decide +kernel) (by decide +kernel) [] (by decide +kernel) (by decide +kernel)
theorem zs_X4_thingOf : zmside ze_X4_thingOf = true := by decide +kernel
set_option maxRecDepth 100000 in
theorem zm_X4_thingOf : ∀ w ∈ zmwords ze_X4_thingOf, w ∈ zTG := zmw_of 621 rfl [619, 620, 53] (by decide +kernel) (by decide +kernel)
theorem zk_X5_thingOf : zOkC zprog zst zTG zTN ze_X5_thingOf := zOkC_of (by decide +kernel) [1105, 1074] (by decide +kernel) (by decide +kernel) [] (by decide +kernel) (by decide +kernel)
theorem zs_X5_thingOf : zmside ze_X5_thingOf = true := by decide +kernel
set_option maxRecDepth 100000 in
theorem zm_X5_thingOf : ∀ w ∈ zmwords ze_X5_thingOf, w ∈ zTG := zmw_of 1275 rfl [1273, 1274, 58] (by decide +kernel) (by decide +kernel)
theorem zk_X4_buyerOf : zOkC zprog zst zTG zTN ze_X4_buyerOf := zOkC_of (by decide +kernel) [242, 461, 277] (by decide +kernel) (by decide +kernel) [] (by decide +kernel) (by decide +kernel)
theorem zs_X4_buyerOf : zmside ze_X4_buyerOf = true := by decide +kernel
set_option maxRecDepth 100000 in
theorem zm_X4_buyerOf : ∀ w ∈ zmwords ze_X4_buyerOf, w ∈ zTG := zmw_of 625 rfl [623, 624, 53] (by decide +kernel) (by decide +kernel)
theorem zk_X5_buyerOf : zOkC zprog zst zTG zTN ze_X5_buyerOf := zOkC_of (by decide +kernel) [1180, 1074] (by decide +kernel) (by decide +kernel) [] (by decide +kernel) (by decide +kernel)
theorem zs_X5_buyerOf : zmside ze_X5_buyerOf = true := by decide +kernel
set_option maxRecDepth 100000 in
theorem zm_X5_buyerOf : ∀ w ∈ zmwords ze_X5_buyerOf, w ∈ zTG := zmw_of 1279 rfl [1277, 1278, 58] (by decide +kernel) (by decide +kernel)
theorem zk_X1_countDrawable : zOkC zprog zst zTG zTN ze_X1_countDrawable := zOkC_of (by decide +kernel) [386, 362, 102, 643, 656] (by decide +kernel) (by decide +kernel) [] (by decide +kernel) (by decide +kernel)
theorem zs_X1_countDrawable : zmside ze_X1_countDrawable = true := by decide +kernel
set_option maxRecDepth 100000 in
theorem zm_X1_countDrawable : ∀ w ∈ zmwords ze_X1_countDrawable, w ∈ zTG := zmw_of 655 rfl [653, 654, 54] (by decide +kernel) (by decide +kernel)
theorem zk_X1_thingsReady : zOkC zprog zst zTG zTN ze_X1_thingsReady := zOkC_of (by decide +kernel) [89, 110] (by decide +kernel) (by decide +kernel) [] (by decide +kernel) (by decide +kernel)
theorem zs_X1_thingsReady : zmside ze_X1_thingsReady = true := by decide +kernel
set_option maxRecDepth 100000 in
theorem zm_X1_thingsReady : ∀ w ∈ zmwords ze_X1_thingsReady, w ∈ zTG := zmw_of 646 rfl [644, 645, 54] (by decide +kernel) (by decide +kernel)
theorem zk_X5_drawableMany : zOkC zprog zst zTG zTN ze_X5_drawableMany := zOkC_of (by decide +kernel) [949, 1296] (by decide +kernel) (by decide +kernel) [] (by decide +kernel) (by decide +kernel)
theorem zs_X5_drawableMany : zmside ze_X5_drawableMany = true := by decide +kernel
set_option maxRecDepth 100000 in
theorem zm_X5_drawableMany : ∀ w ∈ zmwords ze_X5_drawableMany, w ∈ zTG := zmw_of 1295 rfl [1294, 32, 58] (by decide +kernel) (by decide +kernel)
theorem zk_X4_worth : zOkC zprog zst zTG zTN ze_X4_worth := zOkC_of (by decide +kernel) [242, 461, 277] (by decide +kernel) (by decide +kernel) [] (by decide +kernel) (by decide +kernel)
theorem zs_X4_worth : zmside ze_X4_worth = true := by decide +kernel
set_option maxRecDepth 100000 in
theorem zm_X4_worth : ∀ w ∈ zmwords ze_X4_worth, w ∈ zTG := zmw_of 674 rfl [672, 673, 53] (by decide +kernel) (by decide +kernel)
theorem zk_X5_worth : zOkC zprog zst zTG zTN ze_X5_worth := zOkC_of (by decide +kernel) [1180, 1074] (by decide +kernel) (by decide +kernel) [] (by decide +kernel) (by decide +kernel)
theorem zs_X5_worth : zmside ze_X5_worth = true := by decide +kernel
set_option maxRecDepth 100000 in
theorem zm_X5_worth : ∀ w ∈ zmwords ze_X5_worth, w ∈ zTG := zmw_of 1323 rfl [1321, 1322, 58] (by decide +kernel) (by decide +kernel)
