theorem zk_X5_meanOf : zOkC zprog zst zTG zTN ze_X5_meanOf := zOkC_of (by decide +kernel) [1336, 1117, 1341] (by decide +kernel) (by decide +kernel) [] (by decide +kernel) (by decide +kernel)
theorem zs_X5_meanOf : zmside ze_X5_meanOf = true := by decide +kernel
set_option maxRecDepth 100000 in
theorem zm_X5_meanOf : ∀ w ∈ zmwords ze_X5_meanOf, w ∈ zTG := zmw_of 1365 rfl [1364, 42, 58] (by decide +kernel) (by decide +kernel)
theorem zk_X5_noBook : zOkC zprog zst zTG zTN ze_X5_noBook := zOkC_of (by decide +kernel) [1068, 1069, 1073, 1069, 1074, 1082, 942, 1074] (by decide +kernel) (by decide +kernel) [] (by decide +kernel) (by decide +kernel)
theorem zs_X5_noBook : zmside ze_X5_noBook = true := by decide +kernel
set_option maxRecDepth 100000 in
theorem zm_X5_noBook : ∀ w ∈ zmwords ze_X5_noBook, w ∈ zTG := zmw_of 1423 rfl [1422, 45, 58] (by decide +kernel) (by decide +kernel)
theorem zk_X5_noRow : zOkC zprog zst zTG zTN ze_X5_noRow := zOkC_of (by decide +kernel) [1068, 1069, 1074, 940, 1074, 940, 1074] (by decide +kernel) (by decide +kernel) [] (by decide +kernel) (by decide +kernel)
theorem zs_X5_noRow : zmside ze_X5_noRow = true := by decide +kernel
set_option maxRecDepth 100000 in
theorem zm_X5_noRow : ∀ w ∈ zmwords ze_X5_noRow, w ∈ zTG := zmw_of 1085 rfl [1084, 7, 58] (by decide +kernel) (by decide +kernel)
theorem zk_X5_number : zOkC zprog zst zTG zTN ze_X5_number := zOkC_of (by decide +kernel) [969, 971, 1069, 1249, 973, 971, 1219] (by decide +kernel) (by decide +kernel) [] (by decide +kernel) (by decide +kernel)
theorem zs_X5_number : zmside ze_X5_number = true := by decide +kernel
set_option maxRecDepth 100000 in
theorem zm_X5_number : ∀ w ∈ zmwords ze_X5_number, w ∈ zTG := zmw_of 1248 rfl [1247, 25, 58] (by decide +kernel) (by decide +kernel)
theorem zk_X5_oldest : zOkC zprog zst zTG zTN ze_X5_oldest := zOkC_of (by decide +kernel) [957, 1074, 957, 961, 961] (by decide +kernel) (by decide +kernel) [] (by decide +kernel) (by decide +kernel)
theorem zs_X5_oldest : zmside ze_X5_oldest = true := by decide +kernel
set_option maxRecDepth 100000 in
theorem zm_X5_oldest : ∀ w ∈ zmwords ze_X5_oldest, w ∈ zTG := zmw_of 1468 rfl [1466, 1467, 58] (by decide +kernel) (by decide +kernel)
theorem zk_X5_outTold : zOkC zprog zst zTG zTN ze_X5_outTold := zOkC_of (by decide +kernel) [1219, 969, 971, 949, 1069, 956, 971, 1249, 971, 1159, 962, 1249, 956, 971, 1219] (by decide +kernel) (by decide +kernel) [] (by decide +kernel) (by decide +kernel)
theorem zs_X5_outTold : zmside ze_X5_outTold = true := by decide +kernel
set_option maxRecDepth 100000 in
theorem zm_X5_outTold : ∀ w ∈ zmwords ze_X5_outTold, w ∈ zTG := zmw_of 1271 rfl [1270, 29, 58] (by decide +kernel) (by decide +kernel)
theorem zk_X5_over : zOkC zprog zst zTG zTN ze_X5_over := zOkC_of (by decide +kernel) [] (by decide +kernel) (by decide +kernel) [] (by decide +kernel) (by decide +kernel)
theorem zs_X5_over : zmside ze_X5_over = true := by decide +kernel
set_option maxRecDepth 100000 in
theorem zm_X5_over : ∀ w ∈ zmwords ze_X5_over, w ∈ zTG := zmw_of 1214 rfl [1213, 58] (by decide +kernel) (by decide +kernel)
theorem zk_X5_owned : zOkC zprog zst zTG zTN ze_X5_owned := zOkC_of (by decide +kernel) [957, 962] (by decide +kernel) (by decide +kernel) [] (by decide +kernel) (by decide +kernel)
theorem zs_X5_owned : zmside ze_X5_owned = true := by decide +kernel
set_option maxRecDepth 100000 in
theorem zm_X5_owned : ∀ w ∈ zmwords ze_X5_owned, w ∈ zTG := zmw_of 1283 rfl [1282, 30, 58] (by decide +kernel) (by decide +kernel)
theorem zk_X5_plan : zOkC zprog zst zTG zTN ze_X5_plan := zOkC_of (by decide +kernel) [1180, 1332, 1074] (by decide +kernel) (by decide +kernel) [] (by decide +kernel) (by decide +kernel)
theorem zs_X5_plan : zmside ze_X5_plan = true := by decide +kernel
set_option maxRecDepth 100000 in
theorem zm_X5_plan : ∀ w ∈ zmwords ze_X5_plan, w ∈ zTG := zmw_of 1331 rfl [1329, 1330, 58] (by decide +kernel) (by decide +kernel)
theorem zk_X5_planOf : zOkC zprog zst zTG zTN ze_X5_planOf := zOkC_of (by decide +kernel) [1336, 1117, 1341] (by decide +kernel) (by decide +kernel) [] (by decide +kernel) (by decide +kernel)
theorem zs_X5_planOf : zmside ze_X5_planOf = true := by decide +kernel
set_option maxRecDepth 100000 in
theorem zm_X5_planOf : ∀ w ∈ zmwords ze_X5_planOf, w ∈ zTG := zmw_of 1335 rfl [1334, 38, 58] (by decide +kernel) (by decide +kernel)
theorem zk_X5_plays : zOkC zprog zst zTG zTN ze_X5_plays := zOkC_of (by decide +kernel) [1180, 1074, 964, 951, 1332, 1473] (by decide +kernel) (by decide +kernel) [] (by decide +kernel) (by decide +kernel)
theorem zs_X5_plays : zmside ze_X5_plays = true := by decide +kernel
set_option maxRecDepth 100000 in
theorem zm_X5_plays : ∀ w ∈ zmwords ze_X5_plays, w ∈ zTG := zmw_of 1493 rfl [1491, 1492, 58] (by decide +kernel) (by decide +kernel)
theorem zk_X5_poorest : zOkC zprog zst zTG zTN ze_X5_poorest := zOkC_of (by decide +kernel) [963, 1074, 963, 964, 964] (by decide +kernel) (by decide +kernel) [] (by decide +kernel) (by decide +kernel)
theorem zs_X5_poorest : zmside ze_X5_poorest = true := by decide +kernel
set_option maxRecDepth 100000 in
theorem zm_X5_poorest : ∀ w ∈ zmwords ze_X5_poorest, w ∈ zTG := zmw_of 1464 rfl [1462, 1463, 58] (by decide +kernel) (by decide +kernel)
theorem zk_X5_price : zOkC zprog zst zTG zTN ze_X5_price := zOkC_of (by decide +kernel) [1069, 1148, 1149, 1069, 1074, 951, 952, 951, 951, 952, 952] (by decide +kernel) (by decide +kernel) [] (by decide +kernel) (by decide +kernel)
theorem zs_X5_price : zmside ze_X5_price = true := by decide +kernel
set_option maxRecDepth 100000 in
theorem zm_X5_price : ∀ w ∈ zmwords ze_X5_price, w ∈ zTG := zmw_of 1147 rfl [1145, 1146, 58] (by decide +kernel) (by decide +kernel)
theorem zk_X5_priceTold : zOkC zprog zst zTG zTN ze_X5_priceTold := zOkC_of (by decide +kernel) [1241, 973, 951, 1235, 1241, 973, 952] (by decide +kernel) (by decide +kernel) [] (by decide +kernel) (by decide +kernel)
theorem zs_X5_priceTold : zmside ze_X5_priceTold = true := by decide +kernel
set_option maxRecDepth 100000 in
theorem zm_X5_priceTold : ∀ w ∈ zmwords ze_X5_priceTold, w ∈ zTG := zmw_of 1258 rfl [1257, 27, 58] (by decide +kernel) (by decide +kernel)
theorem zk_X5_purse : zOkC zprog zst zTG zTN ze_X5_purse := zOkC_of (by decide +kernel) [1180, 1171, 1069, 1074, 964, 964] (by decide +kernel) (by decide +kernel) [] (by decide +kernel) (by decide +kernel)
theorem zs_X5_purse : zmside ze_X5_purse = true := by decide +kernel
set_option maxRecDepth 100000 in
theorem zm_X5_purse : ∀ w ∈ zmwords ze_X5_purse, w ∈ zTG := zmw_of 1188 rfl [1186, 1187, 58] (by decide +kernel) (by decide +kernel)
theorem zk_X5_readAll : zOkC zprog zst zTG zTN ze_X5_readAll := zOkC_of (by decide +kernel) [974, 968, 1219, 1230, 969, 969, 1249, 1219, 1230, 974, 974] (by decide +kernel) (by decide +kernel) [] (by decide +kernel) (by decide +kernel)
theorem zs_X5_readAll : zmside ze_X5_readAll = true := by decide +kernel
set_option maxRecDepth 100000 in
theorem zm_X5_readAll : ∀ w ∈ zmwords ze_X5_readAll, w ∈ zTG := zmw_of 1218 rfl [1217, 20, 58] (by decide +kernel) (by decide +kernel)
theorem zk_X5_refuse : zOkC zprog zst zTG zTN ze_X5_refuse := zOkC_of (by decide +kernel) [948] (by decide +kernel) (by decide +kernel) [] (by decide +kernel) (by decide +kernel)
theorem zs_X5_refuse : zmside ze_X5_refuse = true := by decide +kernel
set_option maxRecDepth 100000 in
theorem zm_X5_refuse : ∀ w ∈ zmwords ze_X5_refuse, w ∈ zTG := zmw_of 1077 rfl [1076, 6, 58] (by decide +kernel) (by decide +kernel)
theorem zk_X5_row : zOkC zprog zst zTG zTN ze_X5_row := zOkC_of (by decide +kernel) [1068, 1069, 1072, 1069, 1073, 1069, 1074, 940, 941, 942, 943] (by decide +kernel) (by decide +kernel) [] (by decide +kernel) (by decide +kernel)
theorem zs_X5_row : zmside ze_X5_row = true := by decide +kernel
set_option maxRecDepth 100000 in
theorem zm_X5_row : ∀ w ∈ zmwords ze_X5_row, w ∈ zTG := zmw_of 1067 rfl [1065, 1066, 58] (by decide +kernel) (by decide +kernel)
theorem zk_X5_rule : zOkC zprog zst zTG zTN ze_X5_rule := zOkC_of (by decide +kernel) [1142, 1143, 1069, 1074, 957, 1074, 950, 950] (by decide +kernel) (by decide +kernel) [] (by decide +kernel) (by decide +kernel)
theorem zs_X5_rule : zmside ze_X5_rule = true := by decide +kernel
set_option maxRecDepth 100000 in
theorem zm_X5_rule : ∀ w ∈ zmwords ze_X5_rule, w ∈ zTG := zmw_of 1141 rfl [1139, 1140, 58] (by decide +kernel) (by decide +kernel)
theorem zk_X5_says : zOkC zprog zst zTG zTN ze_X5_says := zOkC_of (by decide +kernel) [1068, 1069, 1113, 1069, 1074, 940, 940, 958, 945, 1114, 1074, 940, 1074, 945, 963, 965, 962, 961, 1117, 1121, 960, 953, 1125, 949] (by decide +kernel) (by decide +kernel) [] (by decide +kernel) (by decide +kernel)
theorem zs_X5_says : zmside ze_X5_says = true := by decide +kernel
set_option maxRecDepth 100000 in
theorem zm_X5_says : ∀ w ∈ zmwords ze_X5_says, w ∈ zTG := zmw_of 1112 rfl [1110, 1111, 58] (by decide +kernel) (by decide +kernel)
theorem zk_X5_seed : zOkC zprog zst zTG zTN ze_X5_seed := zOkC_of (by decide +kernel) [955, 955] (by decide +kernel) (by decide +kernel) [] (by decide +kernel) (by decide +kernel)
theorem zs_X5_seed : zmside ze_X5_seed = true := by decide +kernel
set_option maxRecDepth 100000 in
theorem zm_X5_seed : ∀ w ∈ zmwords ze_X5_seed, w ∈ zTG := zmw_of 1501 rfl [1499, 1500, 58] (by decide +kernel) (by decide +kernel)
theorem zk_X5_set : zOkC zprog zst zTG zTN ze_X5_set := zOkC_of (by decide +kernel) [1082, 942, 1069, 1074, 943, 941, 1086] (by decide +kernel) (by decide +kernel) [] (by decide +kernel) (by decide +kernel)
theorem zs_X5_set : zmside ze_X5_set = true := by decide +kernel
set_option maxRecDepth 100000 in
theorem zm_X5_set : ∀ w ∈ zmwords ze_X5_set, w ∈ zTG := zmw_of 1081 rfl [1079, 1080, 58] (by decide +kernel) (by decide +kernel)
theorem zk_X5_show : zOkC zprog zst zTG zTN ze_X5_show := zOkC_of (by decide +kernel) [1068, 1069, 1105, 1074, 940, 945] (by decide +kernel) (by decide +kernel) [] (by decide +kernel) (by decide +kernel)
theorem zs_X5_show : zmside ze_X5_show = true := by decide +kernel
set_option maxRecDepth 100000 in
theorem zm_X5_show : ∀ w ∈ zmwords ze_X5_show, w ∈ zTG := zmw_of 1104 rfl [1102, 1103, 58] (by decide +kernel) (by decide +kernel)
theorem zk_X5_slipOf : zOkC zprog zst zTG zTN ze_X5_slipOf := zOkC_of (by decide +kernel) [949, 1069, 1074, 956, 950, 1296, 1159, 1074] (by decide +kernel) (by decide +kernel) [] (by decide +kernel) (by decide +kernel)
theorem zs_X5_slipOf : zmside ze_X5_slipOf = true := by decide +kernel
set_option maxRecDepth 100000 in
theorem zm_X5_slipOf : ∀ w ∈ zmwords ze_X5_slipOf, w ∈ zTG := zmw_of 1307 rfl [1305, 1306, 58] (by decide +kernel) (by decide +kernel)
theorem zk_X5_slips : zOkC zprog zst zTG zTN ze_X5_slips := zOkC_of (by decide +kernel) [1133, 1069, 1074, 957, 1074, 949, 1134] (by decide +kernel) (by decide +kernel) [] (by decide +kernel) (by decide +kernel)
theorem zs_X5_slips : zmside ze_X5_slips = true := by decide +kernel
set_option maxRecDepth 100000 in
theorem zm_X5_slips : ∀ w ∈ zmwords ze_X5_slips, w ∈ zTG := zmw_of 1132 rfl [1130, 1131, 58] (by decide +kernel) (by decide +kernel)
theorem zk_X5_stall : zOkC zprog zst zTG zTN ze_X5_stall := zOkC_of (by decide +kernel) [1202, 1215, 947, 1208, 1074, 972, 974] (by decide +kernel) (by decide +kernel) [] (by decide +kernel) (by decide +kernel)
theorem zs_X5_stall : zmside ze_X5_stall = true := by decide +kernel
set_option maxRecDepth 100000 in
theorem zm_X5_stall : ∀ w ∈ zmwords ze_X5_stall, w ∈ zTG := zmw_of 1201 rfl [1199, 1200, 58] (by decide +kernel) (by decide +kernel)
theorem zk_X5_standing : zOkC zprog zst zTG zTN ze_X5_standing := zOkC_of (by decide +kernel) [957, 962] (by decide +kernel) (by decide +kernel) [] (by decide +kernel) (by decide +kernel)
theorem zs_X5_standing : zmside ze_X5_standing = true := by decide +kernel
set_option maxRecDepth 100000 in
theorem zm_X5_standing : ∀ w ∈ zmwords ze_X5_standing, w ∈ zTG := zmw_of 1120 rfl [1119, 9, 58] (by decide +kernel) (by decide +kernel)
theorem zk_X5_statement : zOkC zprog zst zTG zTN ze_X5_statement := zOkC_of (by decide +kernel) [1235, 957, 1241, 973, 1134, 1235, 957, 1241, 973, 950, 950, 1235, 1255, 1235, 957, 1261, 1235, 963, 1241, 973, 1172, 1235, 963, 1241, 957, 1245, 1245, 965, 973, 973, 973, 1235, 1268, 1249] (by decide +kernel) (by decide +kernel) [] (by decide +kernel) (by decide +kernel)
theorem zs_X5_statement : zmside ze_X5_statement = true := by decide +kernel
set_option maxRecDepth 100000 in
theorem zm_X5_statement : ∀ w ∈ zmwords ze_X5_statement, w ∈ zTG := zmw_of 1233 rfl [1232, 22, 58] (by decide +kernel) (by decide +kernel)
theorem zk_X5_status : zOkC zprog zst zTG zTN ze_X5_status := zOkC_of (by decide +kernel) [949, 950, 1125, 953, 957, 1117, 963, 954, 947, 955, 940, 1292, 1514, 1515, 1069, 948] (by decide +kernel) (by decide +kernel) [] (by decide +kernel) (by decide +kernel)
theorem zs_X5_status : zmside ze_X5_status = true := by decide +kernel
set_option maxRecDepth 100000 in
theorem zm_X5_status : ∀ w ∈ zmwords ze_X5_status, w ∈ zTG := zmw_of 1513 rfl [1511, 1512, 58] (by decide +kernel) (by decide +kernel)
theorem zk_X5_sure : zOkC zprog zst zTG zTN ze_X5_sure := zOkC_of (by decide +kernel) [1133, 1069, 1411, 1069, 1074, 1403] (by decide +kernel) (by decide +kernel) [] (by decide +kernel) (by decide +kernel)
theorem zs_X5_sure : zmside ze_X5_sure = true := by decide +kernel
set_option maxRecDepth 100000 in
theorem zm_X5_sure : ∀ w ∈ zmwords ze_X5_sure, w ∈ zTG := zmw_of 1410 rfl [1408, 1409, 58] (by decide +kernel) (by decide +kernel)
theorem zk_X5_suspect : zOkC zprog zst zTG zTN ze_X5_suspect := zOkC_of (by decide +kernel) [1133, 1069, 1069, 1403, 1074] (by decide +kernel) (by decide +kernel) [] (by decide +kernel) (by decide +kernel)
theorem zs_X5_suspect : zmside ze_X5_suspect = true := by decide +kernel
set_option maxRecDepth 100000 in
theorem zm_X5_suspect : ∀ w ∈ zmwords ze_X5_suspect, w ∈ zTG := zmw_of 1402 rfl [1400, 1401, 58] (by decide +kernel) (by decide +kernel)
theorem zk_X5_suspected : zOkC zprog zst zTG zTN ze_X5_suspected := zOkC_of (by decide +kernel) [1406] (by decide +kernel) (by decide +kernel) [] (by decide +kernel) (by decide +kernel)
theorem zs_X5_suspected : zmside ze_X5_suspected = true := by decide +kernel
set_option maxRecDepth 100000 in
theorem zm_X5_suspected : ∀ w ∈ zmwords ze_X5_suspected, w ∈ zTG := zmw_of 1405 rfl [1404, 58] (by decide +kernel) (by decide +kernel)
theorem zk_X5_takeFrom : zOkC zprog zst zTG zTN ze_X5_takeFrom := zOkC_of (by decide +kernel) [949, 949, 950, 950, 951, 951, 952, 952, 953, 953, 954, 954, 955, 955, 956, 956, 1212, 957, 957, 958, 958, 1212, 959, 959, 1212, 960, 960, 1212, 961, 961, 1212, 962, 962, 1212, 963, 963, 964, 964, 1212, 965, 965, 1212] (by decide +kernel) (by decide +kernel) [] (by decide +kernel) (by decide +kernel)
theorem zs_X5_takeFrom : zmside ze_X5_takeFrom = true := by decide +kernel
set_option maxRecDepth 100000 in
theorem zm_X5_takeFrom : ∀ w ∈ zmwords ze_X5_takeFrom, w ∈ zTG := zmw_of 1211 rfl [1210, 19, 58] (by decide +kernel) (by decide +kernel)
theorem zk_X5_takings : zOkC zprog zst zTG zTN ze_X5_takings := zOkC_of (by decide +kernel) [1148, 1069, 1379, 1074] (by decide +kernel) (by decide +kernel) [] (by decide +kernel) (by decide +kernel)
theorem zs_X5_takings : zmside ze_X5_takings = true := by decide +kernel
set_option maxRecDepth 100000 in
theorem zm_X5_takings : ∀ w ∈ zmwords ze_X5_takings, w ∈ zTG := zmw_of 1378 rfl [1376, 1377, 58] (by decide +kernel) (by decide +kernel)
theorem zk_X5_takingsAt : zOkC zprog zst zTG zTN ze_X5_takingsAt := zOkC_of (by decide +kernel) [1125, 963, 1324, 964, 964] (by decide +kernel) (by decide +kernel) [] (by decide +kernel) (by decide +kernel)
theorem zs_X5_takingsAt : zmside ze_X5_takingsAt = true := by decide +kernel
set_option maxRecDepth 100000 in
theorem zm_X5_takingsAt : ∀ w ∈ zmwords ze_X5_takingsAt, w ∈ zTG := zmw_of 1382 rfl [1381, 43, 58] (by decide +kernel) (by decide +kernel)
theorem zk_X5_tells : zOkC zprog zst zTG zTN ze_X5_tells := zOkC_of (by decide +kernel) [1219, 1245] (by decide +kernel) (by decide +kernel) [] (by decide +kernel) (by decide +kernel)
theorem zs_X5_tells : zmside ze_X5_tells = true := by decide +kernel
set_option maxRecDepth 100000 in
theorem zm_X5_tells : ∀ w ∈ zmwords ze_X5_tells, w ∈ zTG := zmw_of 1244 rfl [1243, 24, 58] (by decide +kernel) (by decide +kernel)
theorem zk_X5_thing : zOkC zprog zst zTG zTN ze_X5_thing := zOkC_of (by decide +kernel) [1113, 1069, 1154, 1158, 1069, 1074, 956, 1159, 1074, 957, 1074, 1163, 957] (by decide +kernel) (by decide +kernel) [] (by decide +kernel) (by decide +kernel)
theorem zs_X5_thing : zmside ze_X5_thing = true := by decide +kernel
set_option maxRecDepth 100000 in
theorem zm_X5_thing : ∀ w ∈ zmwords ze_X5_thing, w ∈ zTG := zmw_of 1153 rfl [1151, 1152, 58] (by decide +kernel) (by decide +kernel)
theorem zk_X5_thingOf : zOkC zprog zst zTG zTN ze_X5_thingOf := zOkC_of (by decide +kernel) [1105, 1074, 1180, 965, 958, 959, 960, 961, 962, 1074] (by decide +kernel) (by decide +kernel) [] (by decide +kernel) (by decide +kernel)
theorem zs_X5_thingOf : zmside ze_X5_thingOf = true := by decide +kernel
set_option maxRecDepth 100000 in
theorem zm_X5_thingOf : ∀ w ∈ zmwords ze_X5_thingOf, w ∈ zTG := zmw_of 1275 rfl [1273, 1274, 58] (by decide +kernel) (by decide +kernel)
theorem zk_X5_thingOn : zOkC zprog zst zTG zTN ze_X5_thingOn := zOkC_of (by decide +kernel) [957, 959] (by decide +kernel) (by decide +kernel) [] (by decide +kernel) (by decide +kernel)
theorem zs_X5_thingOn : zmside ze_X5_thingOn = true := by decide +kernel
set_option maxRecDepth 100000 in
theorem zm_X5_thingOn : ∀ w ∈ zmwords ze_X5_thingOn, w ∈ zTG := zmw_of 1162 rfl [1161, 14, 58] (by decide +kernel) (by decide +kernel)
theorem zk_X5_thingTold : zOkC zprog zst zTG zTN ze_X5_thingTold := zOkC_of (by decide +kernel) [1241, 969, 971, 1154, 956, 971, 971, 1159, 1249, 949, 1245, 1245, 973, 973, 973, 1163] (by decide +kernel) (by decide +kernel) [] (by decide +kernel) (by decide +kernel)
theorem zs_X5_thingTold : zmside ze_X5_thingTold = true := by decide +kernel
set_option maxRecDepth 100000 in
theorem zm_X5_thingTold : ∀ w ∈ zmwords ze_X5_thingTold, w ∈ zTG := zmw_of 1264 rfl [1263, 28, 58] (by decide +kernel) (by decide +kernel)
theorem zk_X5_till : zOkC zprog zst zTG zTN ze_X5_till := zOkC_of (by decide +kernel) [1180, 1074, 1336, 1117, 978, 1349, 1341] (by decide +kernel) (by decide +kernel) [] (by decide +kernel) (by decide +kernel)
theorem zs_X5_till : zmside ze_X5_till = true := by decide +kernel
set_option maxRecDepth 100000 in
theorem zm_X5_till : ∀ w ∈ zmwords ze_X5_till, w ∈ zTG := zmw_of 1356 rfl [1354, 1355, 58] (by decide +kernel) (by decide +kernel)
theorem zk_X5_valueAt : zOkC zprog zst zTG zTN ze_X5_valueAt := zOkC_of (by decide +kernel) [975, 1340, 975, 979, 1345, 975] (by decide +kernel) (by decide +kernel) [] (by decide +kernel) (by decide +kernel)
theorem zs_X5_valueAt : zmside ze_X5_valueAt = true := by decide +kernel
set_option maxRecDepth 100000 in
theorem zm_X5_valueAt : ∀ w ∈ zmwords ze_X5_valueAt, w ∈ zTG := zmw_of 1344 rfl [1343, 40, 58] (by decide +kernel) (by decide +kernel)
theorem zk_X5_wins : zOkC zprog zst zTG zTN ze_X5_wins := zOkC_of (by decide +kernel) [949, 1069, 1074, 1296, 1312, 1074] (by decide +kernel) (by decide +kernel) [] (by decide +kernel) (by decide +kernel)
theorem zs_X5_wins : zmside ze_X5_wins = true := by decide +kernel
set_option maxRecDepth 100000 in
theorem zm_X5_wins : ∀ w ∈ zmwords ze_X5_wins, w ∈ zTG := zmw_of 1311 rfl [1309, 1310, 58] (by decide +kernel) (by decide +kernel)
theorem zk_X5_winsBy : zOkC zprog zst zTG zTN ze_X5_winsBy := zOkC_of (by decide +kernel) [1159, 962, 1117, 1316] (by decide +kernel) (by decide +kernel) [] (by decide +kernel) (by decide +kernel)
theorem zs_X5_winsBy : zmside ze_X5_winsBy = true := by decide +kernel
set_option maxRecDepth 100000 in
theorem zm_X5_winsBy : ∀ w ∈ zmwords ze_X5_winsBy, w ∈ zTG := zmw_of 1315 rfl [1314, 35, 58] (by decide +kernel) (by decide +kernel)
theorem zk_X5_wipe : zOkC zprog zst zTG zTN ze_X5_wipe := zOkC_of (by decide +kernel) [947, 947] (by decide +kernel) (by decide +kernel) [] (by decide +kernel) (by decide +kernel)
theorem zs_X5_wipe : zmside ze_X5_wipe = true := by decide +kernel
set_option maxRecDepth 100000 in
theorem zm_X5_wipe : ∀ w ∈ zmwords ze_X5_wipe, w ∈ zTG := zmw_of 1197 rfl [1195, 1196, 58] (by decide +kernel) (by decide +kernel)
theorem zk_X5_won : zOkC zprog zst zTG zTN ze_X5_won := zOkC_of (by decide +kernel) [1420, 943, 1424, 1074, 980] (by decide +kernel) (by decide +kernel) [] (by decide +kernel) (by decide +kernel)
theorem zs_X5_won : zmside ze_X5_won = true := by decide +kernel
set_option maxRecDepth 100000 in
theorem zm_X5_won : ∀ w ∈ zmwords ze_X5_won, w ∈ zTG := zmw_of 1435 rfl [1433, 1434, 58] (by decide +kernel) (by decide +kernel)
theorem zk_X5_wonBy : zOkC zprog zst zTG zTN ze_X5_wonBy := zOkC_of (by decide +kernel) [958, 1121] (by decide +kernel) (by decide +kernel) [] (by decide +kernel) (by decide +kernel)
theorem zs_X5_wonBy : zmside ze_X5_wonBy = true := by decide +kernel
set_option maxRecDepth 100000 in
theorem zm_X5_wonBy : ∀ w ∈ zmwords ze_X5_wonBy, w ∈ zTG := zmw_of 1319 rfl [1318, 36, 58] (by decide +kernel) (by decide +kernel)
theorem zk_X5_worth : zOkC zprog zst zTG zTN ze_X5_worth := zOkC_of (by decide +kernel) [1180, 1324, 1074] (by decide +kernel) (by decide +kernel) [] (by decide +kernel) (by decide +kernel)
theorem zs_X5_worth : zmside ze_X5_worth = true := by decide +kernel
set_option maxRecDepth 100000 in
theorem zm_X5_worth : ∀ w ∈ zmwords ze_X5_worth, w ∈ zTG := zmw_of 1323 rfl [1321, 1322, 58] (by decide +kernel) (by decide +kernel)
theorem zk_X5_worthTo : zOkC zprog zst zTG zTN ze_X5_worthTo := zOkC_of (by decide +kernel) [949, 1296, 1312, 1284] (by decide +kernel) (by decide +kernel) [] (by decide +kernel) (by decide +kernel)
theorem zs_X5_worthTo : zmside ze_X5_worthTo = true := by decide +kernel
set_option maxRecDepth 100000 in
theorem zm_X5_worthTo : ∀ w ∈ zmwords ze_X5_worthTo, w ∈ zTG := zmw_of 1327 rfl [1326, 37, 58] (by decide +kernel) (by decide +kernel)
theorem zk_X5_wrong : zOkC zprog zst zTG zTN ze_X5_wrong := zOkC_of (by decide +kernel) [970, 972] (by decide +kernel) (by decide +kernel) [] (by decide +kernel) (by decide +kernel)
theorem zs_X5_wrong : zmside ze_X5_wrong = true := by decide +kernel
set_option maxRecDepth 100000 in
theorem zm_X5_wrong : ∀ w ∈ zmwords ze_X5_wrong, w ∈ zTG := zmw_of 1252 rfl [1251, 26, 58] (by decide +kernel) (by decide +kernel)
