set_option maxRecDepth 100000 in
theorem tc_X5_chain_39 : tchk2 zty 43 zprog zsm zhts [] 3 ze_X5_chain te_X5_chain_0 [48, 65, 103] tsp_X5_chain 25 tl_X5_chain_39 tr_X5_chain_39 = true := by decide +kernel
theorem ts_X5_chain_39 : tchk zty 43 zprog zsm zhts [] 3 ze_X5_chain te_X5_chain_0 [48, 65, 103] tsp_X5_chain 25 (tl_X5_chain_39 ++ tr_X5_chain_39) = true := tchk_app tc_X5_chain_39 ts_X5_chain_40
set_option maxRecDepth 100000 in
theorem tc_X5_chain_38 : tchk2 zty 43 zprog zsm zhts [] 3 ze_X5_chain te_X5_chain_0 [48, 65, 103] tsp_X5_chain 25 tl_X5_chain_38 tr_X5_chain_38 = true := by decide +kernel
theorem ts_X5_chain_38 : tchk zty 43 zprog zsm zhts [] 3 ze_X5_chain te_X5_chain_0 [48, 65, 103] tsp_X5_chain 25 (tl_X5_chain_38 ++ tr_X5_chain_38) = true := tchk_app tc_X5_chain_38 ts_X5_chain_39
set_option maxRecDepth 100000 in
theorem tc_X5_chain_37 : tchk2 zty 43 zprog zsm zhts [] 3 ze_X5_chain te_X5_chain_0 [48, 65, 103] tsp_X5_chain 25 tl_X5_chain_37 tr_X5_chain_37 = true := by decide +kernel
theorem ts_X5_chain_37 : tchk zty 43 zprog zsm zhts [] 3 ze_X5_chain te_X5_chain_0 [48, 65, 103] tsp_X5_chain 25 (tl_X5_chain_37 ++ tr_X5_chain_37) = true := tchk_app tc_X5_chain_37 ts_X5_chain_38
set_option maxRecDepth 100000 in
theorem tc_X5_chain_36 : tchk2 zty 43 zprog zsm zhts [] 3 ze_X5_chain te_X5_chain_0 [48, 65, 103] tsp_X5_chain 25 tl_X5_chain_36 tr_X5_chain_36 = true := by decide +kernel
theorem ts_X5_chain_36 : tchk zty 43 zprog zsm zhts [] 3 ze_X5_chain te_X5_chain_0 [48, 65, 103] tsp_X5_chain 25 (tl_X5_chain_36 ++ tr_X5_chain_36) = true := tchk_app tc_X5_chain_36 ts_X5_chain_37
set_option maxRecDepth 100000 in
theorem tc_X5_chain_35 : tchk2 zty 43 zprog zsm zhts [] 3 ze_X5_chain te_X5_chain_0 [48, 65, 103] tsp_X5_chain 25 tl_X5_chain_35 tr_X5_chain_35 = true := by decide +kernel
theorem ts_X5_chain_35 : tchk zty 43 zprog zsm zhts [] 3 ze_X5_chain te_X5_chain_0 [48, 65, 103] tsp_X5_chain 25 (tl_X5_chain_35 ++ tr_X5_chain_35) = true := tchk_app tc_X5_chain_35 ts_X5_chain_36
set_option maxRecDepth 100000 in
theorem tc_X5_chain_34 : tchk2 zty 43 zprog zsm zhts [] 3 ze_X5_chain te_X5_chain_0 [48, 65, 103] tsp_X5_chain 25 tl_X5_chain_34 tr_X5_chain_34 = true := by decide +kernel
theorem ts_X5_chain_34 : tchk zty 43 zprog zsm zhts [] 3 ze_X5_chain te_X5_chain_0 [48, 65, 103] tsp_X5_chain 25 (tl_X5_chain_34 ++ tr_X5_chain_34) = true := tchk_app tc_X5_chain_34 ts_X5_chain_35
set_option maxRecDepth 100000 in
theorem tc_X5_chain_33 : tchk2 zty 43 zprog zsm zhts [] 3 ze_X5_chain te_X5_chain_0 [48, 65, 103] tsp_X5_chain 25 tl_X5_chain_33 tr_X5_chain_33 = true := by decide +kernel
theorem ts_X5_chain_33 : tchk zty 43 zprog zsm zhts [] 3 ze_X5_chain te_X5_chain_0 [48, 65, 103] tsp_X5_chain 25 (tl_X5_chain_33 ++ tr_X5_chain_33) = true := tchk_app tc_X5_chain_33 ts_X5_chain_34
set_option maxRecDepth 100000 in
theorem tc_X5_chain_32 : tchk2 zty 43 zprog zsm zhts [] 3 ze_X5_chain te_X5_chain_0 [48, 65, 103] tsp_X5_chain 25 tl_X5_chain_32 tr_X5_chain_32 = true := by decide +kernel
theorem ts_X5_chain_32 : tchk zty 43 zprog zsm zhts [] 3 ze_X5_chain te_X5_chain_0 [48, 65, 103] tsp_X5_chain 25 (tl_X5_chain_32 ++ tr_X5_chain_32) = true := tchk_app tc_X5_chain_32 ts_X5_chain_33
set_option maxRecDepth 100000 in
theorem tc_X5_chain_31 : tchk2 zty 43 zprog zsm zhts [] 3 ze_X5_chain te_X5_chain_0 [48, 65, 103] tsp_X5_chain 25 tl_X5_chain_31 tr_X5_chain_31 = true := by decide +kernel
theorem ts_X5_chain_31 : tchk zty 43 zprog zsm zhts [] 3 ze_X5_chain te_X5_chain_0 [48, 65, 103] tsp_X5_chain 25 (tl_X5_chain_31 ++ tr_X5_chain_31) = true := tchk_app tc_X5_chain_31 ts_X5_chain_32
set_option maxRecDepth 100000 in
theorem tc_X5_chain_30 : tchk2 zty 43 zprog zsm zhts [] 3 ze_X5_chain te_X5_chain_0 [48, 65, 103] tsp_X5_chain 25 tl_X5_chain_30 tr_X5_chain_30 = true := by decide +kernel
theorem ts_X5_chain_30 : tchk zty 43 zprog zsm zhts [] 3 ze_X5_chain te_X5_chain_0 [48, 65, 103] tsp_X5_chain 25 (tl_X5_chain_30 ++ tr_X5_chain_30) = true := tchk_app tc_X5_chain_30 ts_X5_chain_31
set_option maxRecDepth 100000 in
theorem tc_X5_chain_29 : tchk2 zty 43 zprog zsm zhts [] 3 ze_X5_chain te_X5_chain_0 [48, 65, 103] tsp_X5_chain 25 tl_X5_chain_29 tr_X5_chain_29 = true := by decide +kernel
theorem ts_X5_chain_29 : tchk zty 43 zprog zsm zhts [] 3 ze_X5_chain te_X5_chain_0 [48, 65, 103] tsp_X5_chain 25 (tl_X5_chain_29 ++ tr_X5_chain_29) = true := tchk_app tc_X5_chain_29 ts_X5_chain_30
set_option maxRecDepth 100000 in
theorem tc_X5_chain_28 : tchk2 zty 43 zprog zsm zhts [] 3 ze_X5_chain te_X5_chain_0 [48, 65, 103] tsp_X5_chain 25 tl_X5_chain_28 tr_X5_chain_28 = true := by decide +kernel
theorem ts_X5_chain_28 : tchk zty 43 zprog zsm zhts [] 3 ze_X5_chain te_X5_chain_0 [48, 65, 103] tsp_X5_chain 25 (tl_X5_chain_28 ++ tr_X5_chain_28) = true := tchk_app tc_X5_chain_28 ts_X5_chain_29
set_option maxRecDepth 100000 in
theorem tc_X5_chain_27 : tchk2 zty 43 zprog zsm zhts [] 3 ze_X5_chain te_X5_chain_0 [48, 65, 103] tsp_X5_chain 25 tl_X5_chain_27 tr_X5_chain_27 = true := by decide +kernel
theorem ts_X5_chain_27 : tchk zty 43 zprog zsm zhts [] 3 ze_X5_chain te_X5_chain_0 [48, 65, 103] tsp_X5_chain 25 (tl_X5_chain_27 ++ tr_X5_chain_27) = true := tchk_app tc_X5_chain_27 ts_X5_chain_28
set_option maxRecDepth 100000 in
theorem tc_X5_chain_26 : tchk2 zty 43 zprog zsm zhts [] 3 ze_X5_chain te_X5_chain_0 [48, 65, 103] tsp_X5_chain 25 tl_X5_chain_26 tr_X5_chain_26 = true := by decide +kernel
theorem ts_X5_chain_26 : tchk zty 43 zprog zsm zhts [] 3 ze_X5_chain te_X5_chain_0 [48, 65, 103] tsp_X5_chain 25 (tl_X5_chain_26 ++ tr_X5_chain_26) = true := tchk_app tc_X5_chain_26 ts_X5_chain_27
set_option maxRecDepth 100000 in
theorem tc_X5_chain_25 : tchk2 zty 43 zprog zsm zhts [] 3 ze_X5_chain te_X5_chain_0 [48, 65, 103] tsp_X5_chain 25 tl_X5_chain_25 tr_X5_chain_25 = true := by decide +kernel
theorem ts_X5_chain_25 : tchk zty 43 zprog zsm zhts [] 3 ze_X5_chain te_X5_chain_0 [48, 65, 103] tsp_X5_chain 25 (tl_X5_chain_25 ++ tr_X5_chain_25) = true := tchk_app tc_X5_chain_25 ts_X5_chain_26
set_option maxRecDepth 100000 in
theorem tc_X5_chain_24 : tchk2 zty 43 zprog zsm zhts [] 3 ze_X5_chain te_X5_chain_0 [48, 65, 103] tsp_X5_chain 25 tl_X5_chain_24 tr_X5_chain_24 = true := by decide +kernel
theorem ts_X5_chain_24 : tchk zty 43 zprog zsm zhts [] 3 ze_X5_chain te_X5_chain_0 [48, 65, 103] tsp_X5_chain 25 (tl_X5_chain_24 ++ tr_X5_chain_24) = true := tchk_app tc_X5_chain_24 ts_X5_chain_25
set_option maxRecDepth 100000 in
theorem tc_X5_chain_23 : tchk2 zty 43 zprog zsm zhts [] 3 ze_X5_chain te_X5_chain_0 [48, 65, 103] tsp_X5_chain 25 tl_X5_chain_23 tr_X5_chain_23 = true := by decide +kernel
theorem ts_X5_chain_23 : tchk zty 43 zprog zsm zhts [] 3 ze_X5_chain te_X5_chain_0 [48, 65, 103] tsp_X5_chain 25 (tl_X5_chain_23 ++ tr_X5_chain_23) = true := tchk_app tc_X5_chain_23 ts_X5_chain_24
set_option maxRecDepth 100000 in
theorem tc_X5_chain_22 : tchk2 zty 43 zprog zsm zhts [] 3 ze_X5_chain te_X5_chain_0 [48, 65, 103] tsp_X5_chain 25 tl_X5_chain_22 tr_X5_chain_22 = true := by decide +kernel
theorem ts_X5_chain_22 : tchk zty 43 zprog zsm zhts [] 3 ze_X5_chain te_X5_chain_0 [48, 65, 103] tsp_X5_chain 25 (tl_X5_chain_22 ++ tr_X5_chain_22) = true := tchk_app tc_X5_chain_22 ts_X5_chain_23
set_option maxRecDepth 100000 in
theorem tc_X5_chain_21 : tchk2 zty 43 zprog zsm zhts [] 3 ze_X5_chain te_X5_chain_0 [48, 65, 103] tsp_X5_chain 25 tl_X5_chain_21 tr_X5_chain_21 = true := by decide +kernel
theorem ts_X5_chain_21 : tchk zty 43 zprog zsm zhts [] 3 ze_X5_chain te_X5_chain_0 [48, 65, 103] tsp_X5_chain 25 (tl_X5_chain_21 ++ tr_X5_chain_21) = true := tchk_app tc_X5_chain_21 ts_X5_chain_22
set_option maxRecDepth 100000 in
theorem tc_X5_chain_20 : tchk2 zty 43 zprog zsm zhts [] 3 ze_X5_chain te_X5_chain_0 [48, 65, 103] tsp_X5_chain 25 tl_X5_chain_20 tr_X5_chain_20 = true := by decide +kernel
theorem ts_X5_chain_20 : tchk zty 43 zprog zsm zhts [] 3 ze_X5_chain te_X5_chain_0 [48, 65, 103] tsp_X5_chain 25 (tl_X5_chain_20 ++ tr_X5_chain_20) = true := tchk_app tc_X5_chain_20 ts_X5_chain_21
set_option maxRecDepth 100000 in
theorem tc_X5_chain_19 : tchk2 zty 43 zprog zsm zhts [] 3 ze_X5_chain te_X5_chain_0 [48, 65, 103] tsp_X5_chain 25 tl_X5_chain_19 tr_X5_chain_19 = true := by decide +kernel
theorem ts_X5_chain_19 : tchk zty 43 zprog zsm zhts [] 3 ze_X5_chain te_X5_chain_0 [48, 65, 103] tsp_X5_chain 25 (tl_X5_chain_19 ++ tr_X5_chain_19) = true := tchk_app tc_X5_chain_19 ts_X5_chain_20
set_option maxRecDepth 100000 in
theorem tc_X5_chain_18 : tchk2 zty 43 zprog zsm zhts [] 3 ze_X5_chain te_X5_chain_0 [48, 65, 103] tsp_X5_chain 25 tl_X5_chain_18 tr_X5_chain_18 = true := by decide +kernel
theorem ts_X5_chain_18 : tchk zty 43 zprog zsm zhts [] 3 ze_X5_chain te_X5_chain_0 [48, 65, 103] tsp_X5_chain 25 (tl_X5_chain_18 ++ tr_X5_chain_18) = true := tchk_app tc_X5_chain_18 ts_X5_chain_19
set_option maxRecDepth 100000 in
theorem tc_X5_chain_17 : tchk2 zty 43 zprog zsm zhts [] 3 ze_X5_chain te_X5_chain_0 [48, 65, 103] tsp_X5_chain 25 tl_X5_chain_17 tr_X5_chain_17 = true := by decide +kernel
theorem ts_X5_chain_17 : tchk zty 43 zprog zsm zhts [] 3 ze_X5_chain te_X5_chain_0 [48, 65, 103] tsp_X5_chain 25 (tl_X5_chain_17 ++ tr_X5_chain_17) = true := tchk_app tc_X5_chain_17 ts_X5_chain_18
set_option maxRecDepth 100000 in
theorem tc_X5_chain_16 : tchk2 zty 43 zprog zsm zhts [] 3 ze_X5_chain te_X5_chain_0 [48, 65, 103] tsp_X5_chain 25 tl_X5_chain_16 tr_X5_chain_16 = true := by decide +kernel
theorem ts_X5_chain_16 : tchk zty 43 zprog zsm zhts [] 3 ze_X5_chain te_X5_chain_0 [48, 65, 103] tsp_X5_chain 25 (tl_X5_chain_16 ++ tr_X5_chain_16) = true := tchk_app tc_X5_chain_16 ts_X5_chain_17
set_option maxRecDepth 100000 in
theorem tc_X5_chain_15 : tchk2 zty 43 zprog zsm zhts [] 3 ze_X5_chain te_X5_chain_0 [48, 65, 103] tsp_X5_chain 25 tl_X5_chain_15 tr_X5_chain_15 = true := by decide +kernel
theorem ts_X5_chain_15 : tchk zty 43 zprog zsm zhts [] 3 ze_X5_chain te_X5_chain_0 [48, 65, 103] tsp_X5_chain 25 (tl_X5_chain_15 ++ tr_X5_chain_15) = true := tchk_app tc_X5_chain_15 ts_X5_chain_16
set_option maxRecDepth 100000 in
theorem tc_X5_chain_14 : tchk2 zty 43 zprog zsm zhts [] 3 ze_X5_chain te_X5_chain_0 [48, 65, 103] tsp_X5_chain 25 tl_X5_chain_14 tr_X5_chain_14 = true := by decide +kernel
theorem ts_X5_chain_14 : tchk zty 43 zprog zsm zhts [] 3 ze_X5_chain te_X5_chain_0 [48, 65, 103] tsp_X5_chain 25 (tl_X5_chain_14 ++ tr_X5_chain_14) = true := tchk_app tc_X5_chain_14 ts_X5_chain_15
set_option maxRecDepth 100000 in
theorem tc_X5_chain_13 : tchk2 zty 43 zprog zsm zhts [] 3 ze_X5_chain te_X5_chain_0 [48, 65, 103] tsp_X5_chain 25 tl_X5_chain_13 tr_X5_chain_13 = true := by decide +kernel
theorem ts_X5_chain_13 : tchk zty 43 zprog zsm zhts [] 3 ze_X5_chain te_X5_chain_0 [48, 65, 103] tsp_X5_chain 25 (tl_X5_chain_13 ++ tr_X5_chain_13) = true := tchk_app tc_X5_chain_13 ts_X5_chain_14
set_option maxRecDepth 100000 in
theorem tc_X5_chain_12 : tchk2 zty 43 zprog zsm zhts [] 3 ze_X5_chain te_X5_chain_0 [48, 65, 103] tsp_X5_chain 25 tl_X5_chain_12 tr_X5_chain_12 = true := by decide +kernel
theorem ts_X5_chain_12 : tchk zty 43 zprog zsm zhts [] 3 ze_X5_chain te_X5_chain_0 [48, 65, 103] tsp_X5_chain 25 (tl_X5_chain_12 ++ tr_X5_chain_12) = true := tchk_app tc_X5_chain_12 ts_X5_chain_13
set_option maxRecDepth 100000 in
theorem tc_X5_chain_11 : tchk2 zty 43 zprog zsm zhts [] 3 ze_X5_chain te_X5_chain_0 [48, 65, 103] tsp_X5_chain 25 tl_X5_chain_11 tr_X5_chain_11 = true := by decide +kernel
theorem ts_X5_chain_11 : tchk zty 43 zprog zsm zhts [] 3 ze_X5_chain te_X5_chain_0 [48, 65, 103] tsp_X5_chain 25 (tl_X5_chain_11 ++ tr_X5_chain_11) = true := tchk_app tc_X5_chain_11 ts_X5_chain_12
set_option maxRecDepth 100000 in
theorem tc_X5_chain_10 : tchk2 zty 43 zprog zsm zhts [] 3 ze_X5_chain te_X5_chain_0 [48, 65, 103] tsp_X5_chain 25 tl_X5_chain_10 tr_X5_chain_10 = true := by decide +kernel
theorem ts_X5_chain_10 : tchk zty 43 zprog zsm zhts [] 3 ze_X5_chain te_X5_chain_0 [48, 65, 103] tsp_X5_chain 25 (tl_X5_chain_10 ++ tr_X5_chain_10) = true := tchk_app tc_X5_chain_10 ts_X5_chain_11
