theorem zk_X5_wrongIn : zOkC zprog zst zTG zTN ze_X5_wrongIn := zOkC_of (by decide +kernel) [1202, 980, 949, 1069, 1296, 980, 1428, 980] (by decide +kernel) (by decide +kernel) [] (by decide +kernel) (by decide +kernel)
theorem zs_X5_wrongIn : zmside ze_X5_wrongIn = true := by decide +kernel
set_option maxRecDepth 100000 in
theorem zm_X5_wrongIn : ∀ w ∈ zmwords ze_X5_wrongIn, w ∈ zTG := zmw_of 1427 rfl [1426, 46, 58] (by decide +kernel) (by decide +kernel)
theorem zk_X5_beginValuesN : zOkC zprog zst zTG zTN ze_X5_beginValuesN := zOkC_of (by decide +kernel) [975, 936, 241, 975, 975, 1340, 976, 953, 977, 1125, 978, 979] (by decide +kernel) (by decide +kernel) [] (by decide +kernel) (by decide +kernel)
theorem zs_X5_beginValuesN : zmside ze_X5_beginValuesN = true := by decide +kernel
set_option maxRecDepth 100000 in
theorem zm_X5_beginValuesN : ∀ w ∈ zmwords ze_X5_beginValuesN, w ∈ zTG := zmw_of 1339 rfl [1338, 39, 58] (by decide +kernel) (by decide +kernel)
theorem zk_X5_planOfN : zOkC zprog zst zTG zTN ze_X5_planOfN := zOkC_of (by decide +kernel) [1336, 1117, 1341] (by decide +kernel) (by decide +kernel) [] (by decide +kernel) (by decide +kernel)
theorem zs_X5_planOfN : zmside ze_X5_planOfN = true := by decide +kernel
set_option maxRecDepth 100000 in
theorem zm_X5_planOfN : ∀ w ∈ zmwords ze_X5_planOfN, w ∈ zTG := zmw_of 1335 rfl [1334, 38, 58] (by decide +kernel) (by decide +kernel)
theorem zk_X5_meanOfN : zOkC zprog zst zTG zTN ze_X5_meanOfN := zOkC_of (by decide +kernel) [1336, 1117, 1341] (by decide +kernel) (by decide +kernel) [] (by decide +kernel) (by decide +kernel)
theorem zs_X5_meanOfN : zmside ze_X5_meanOfN = true := by decide +kernel
set_option maxRecDepth 100000 in
theorem zm_X5_meanOfN : ∀ w ∈ zmwords ze_X5_meanOfN, w ∈ zTG := zmw_of 1365 rfl [1364, 42, 58] (by decide +kernel) (by decide +kernel)
theorem zk_X5_planN : zOkC zprog zst zTG zTN ze_X5_planN := zOkC_of (by decide +kernel) [1180, 1332, 1074] (by decide +kernel) (by decide +kernel) [] (by decide +kernel) (by decide +kernel)
theorem zs_X5_planN : zmside ze_X5_planN = true := by decide +kernel
set_option maxRecDepth 100000 in
theorem zm_X5_planN : ∀ w ∈ zmwords ze_X5_planN, w ∈ zTG := zmw_of 1331 rfl [1329, 1330, 58] (by decide +kernel) (by decide +kernel)
theorem zk_X5_tillN : zOkC zprog zst zTG zTN ze_X5_tillN := zOkC_of (by decide +kernel) [1180, 1074, 1336, 1117, 978, 1349, 1341] (by decide +kernel) (by decide +kernel) [] (by decide +kernel) (by decide +kernel)
theorem zs_X5_tillN : zmside ze_X5_tillN = true := by decide +kernel
set_option maxRecDepth 100000 in
theorem zm_X5_tillN : ∀ w ∈ zmwords ze_X5_tillN, w ∈ zTG := zmw_of 1356 rfl [1354, 1355, 58] (by decide +kernel) (by decide +kernel)
theorem zk_X5_meanN : zOkC zprog zst zTG zTN ze_X5_meanN := zOkC_of (by decide +kernel) [1180, 1361, 1069, 1362, 1074] (by decide +kernel) (by decide +kernel) [] (by decide +kernel) (by decide +kernel)
theorem zs_X5_meanN : zmside ze_X5_meanN = true := by decide +kernel
set_option maxRecDepth 100000 in
theorem zm_X5_meanN : ∀ w ∈ zmwords ze_X5_meanN, w ∈ zTG := zmw_of 1360 rfl [1358, 1359, 58] (by decide +kernel) (by decide +kernel)
theorem zk_X5_atOnceN : zOkC zprog zst zTG zTN ze_X5_atOnceN := zOkC_of (by decide +kernel) [1180, 1370, 1074, 1362, 1352, 952] (by decide +kernel) (by decide +kernel) [] (by decide +kernel) (by decide +kernel)
theorem zs_X5_atOnceN : zmside ze_X5_atOnceN = true := by decide +kernel
set_option maxRecDepth 100000 in
theorem zm_X5_atOnceN : ∀ w ∈ zmwords ze_X5_atOnceN, w ∈ zTG := zmw_of 1369 rfl [1367, 1368, 58] (by decide +kernel) (by decide +kernel)
theorem zk_X5_playsN : zOkC zprog zst zTG zTN ze_X5_playsN := zOkC_of (by decide +kernel) [1180, 1074, 964, 951, 1332, 1473] (by decide +kernel) (by decide +kernel) [] (by decide +kernel) (by decide +kernel)
theorem zs_X5_playsN : zmside ze_X5_playsN = true := by decide +kernel
set_option maxRecDepth 100000 in
theorem zm_X5_playsN : ∀ w ∈ zmwords ze_X5_playsN, w ∈ zTG := zmw_of 1493 rfl [1491, 1492, 58] (by decide +kernel) (by decide +kernel)
