set_option maxRecDepth 100000 in
theorem tc_X3_markNext_42 : tchk2 zty 43 zprog zsm zhts [] 4 ze_X3_markNext te_X3_markNext_0 [3, 46] tsp_X3_markNext 35 tl_X3_markNext_42 tr_X3_markNext_42 = true := by decide +kernel
theorem ts_X3_markNext_42 : tchk zty 43 zprog zsm zhts [] 4 ze_X3_markNext te_X3_markNext_0 [3, 46] tsp_X3_markNext 35 (tl_X3_markNext_42 ++ tr_X3_markNext_42) = true := tchk_app tc_X3_markNext_42 ts_X3_markNext_43
set_option maxRecDepth 100000 in
theorem tc_X3_markNext_41 : tchk2 zty 43 zprog zsm zhts [] 4 ze_X3_markNext te_X3_markNext_0 [3, 46] tsp_X3_markNext 35 tl_X3_markNext_41 tr_X3_markNext_41 = true := by decide +kernel
theorem ts_X3_markNext_41 : tchk zty 43 zprog zsm zhts [] 4 ze_X3_markNext te_X3_markNext_0 [3, 46] tsp_X3_markNext 35 (tl_X3_markNext_41 ++ tr_X3_markNext_41) = true := tchk_app tc_X3_markNext_41 ts_X3_markNext_42
set_option maxRecDepth 100000 in
theorem tc_X3_markNext_40 : tchk2 zty 43 zprog zsm zhts [] 4 ze_X3_markNext te_X3_markNext_0 [3, 46] tsp_X3_markNext 35 tl_X3_markNext_40 tr_X3_markNext_40 = true := by decide +kernel
theorem ts_X3_markNext_40 : tchk zty 43 zprog zsm zhts [] 4 ze_X3_markNext te_X3_markNext_0 [3, 46] tsp_X3_markNext 35 (tl_X3_markNext_40 ++ tr_X3_markNext_40) = true := tchk_app tc_X3_markNext_40 ts_X3_markNext_41
set_option maxRecDepth 100000 in
theorem tc_X3_markNext_39 : tchk2 zty 43 zprog zsm zhts [] 4 ze_X3_markNext te_X3_markNext_0 [3, 46] tsp_X3_markNext 35 tl_X3_markNext_39 tr_X3_markNext_39 = true := by decide +kernel
theorem ts_X3_markNext_39 : tchk zty 43 zprog zsm zhts [] 4 ze_X3_markNext te_X3_markNext_0 [3, 46] tsp_X3_markNext 35 (tl_X3_markNext_39 ++ tr_X3_markNext_39) = true := tchk_app tc_X3_markNext_39 ts_X3_markNext_40
set_option maxRecDepth 100000 in
theorem tc_X3_markNext_38 : tchk2 zty 43 zprog zsm zhts [] 4 ze_X3_markNext te_X3_markNext_0 [3, 46] tsp_X3_markNext 35 tl_X3_markNext_38 tr_X3_markNext_38 = true := by decide +kernel
theorem ts_X3_markNext_38 : tchk zty 43 zprog zsm zhts [] 4 ze_X3_markNext te_X3_markNext_0 [3, 46] tsp_X3_markNext 35 (tl_X3_markNext_38 ++ tr_X3_markNext_38) = true := tchk_app tc_X3_markNext_38 ts_X3_markNext_39
set_option maxRecDepth 100000 in
theorem tc_X3_markNext_37 : tchk2 zty 43 zprog zsm zhts [] 4 ze_X3_markNext te_X3_markNext_0 [3, 46] tsp_X3_markNext 35 tl_X3_markNext_37 tr_X3_markNext_37 = true := by decide +kernel
theorem ts_X3_markNext_37 : tchk zty 43 zprog zsm zhts [] 4 ze_X3_markNext te_X3_markNext_0 [3, 46] tsp_X3_markNext 35 (tl_X3_markNext_37 ++ tr_X3_markNext_37) = true := tchk_app tc_X3_markNext_37 ts_X3_markNext_38
set_option maxRecDepth 100000 in
theorem tc_X3_markNext_36 : tchk2 zty 43 zprog zsm zhts [] 4 ze_X3_markNext te_X3_markNext_0 [3, 46] tsp_X3_markNext 35 tl_X3_markNext_36 tr_X3_markNext_36 = true := by decide +kernel
theorem ts_X3_markNext_36 : tchk zty 43 zprog zsm zhts [] 4 ze_X3_markNext te_X3_markNext_0 [3, 46] tsp_X3_markNext 35 (tl_X3_markNext_36 ++ tr_X3_markNext_36) = true := tchk_app tc_X3_markNext_36 ts_X3_markNext_37
set_option maxRecDepth 100000 in
theorem tc_X3_markNext_35 : tchk2 zty 43 zprog zsm zhts [] 4 ze_X3_markNext te_X3_markNext_0 [3, 46] tsp_X3_markNext 35 tl_X3_markNext_35 tr_X3_markNext_35 = true := by decide +kernel
theorem ts_X3_markNext_35 : tchk zty 43 zprog zsm zhts [] 4 ze_X3_markNext te_X3_markNext_0 [3, 46] tsp_X3_markNext 35 (tl_X3_markNext_35 ++ tr_X3_markNext_35) = true := tchk_app tc_X3_markNext_35 ts_X3_markNext_36
set_option maxRecDepth 100000 in
theorem tc_X3_markNext_34 : tchk2 zty 43 zprog zsm zhts [] 4 ze_X3_markNext te_X3_markNext_0 [3, 46] tsp_X3_markNext 35 tl_X3_markNext_34 tr_X3_markNext_34 = true := by decide +kernel
theorem ts_X3_markNext_34 : tchk zty 43 zprog zsm zhts [] 4 ze_X3_markNext te_X3_markNext_0 [3, 46] tsp_X3_markNext 35 (tl_X3_markNext_34 ++ tr_X3_markNext_34) = true := tchk_app tc_X3_markNext_34 ts_X3_markNext_35
set_option maxRecDepth 100000 in
theorem tc_X3_markNext_33 : tchk2 zty 43 zprog zsm zhts [] 4 ze_X3_markNext te_X3_markNext_0 [3, 46] tsp_X3_markNext 35 tl_X3_markNext_33 tr_X3_markNext_33 = true := by decide +kernel
theorem ts_X3_markNext_33 : tchk zty 43 zprog zsm zhts [] 4 ze_X3_markNext te_X3_markNext_0 [3, 46] tsp_X3_markNext 35 (tl_X3_markNext_33 ++ tr_X3_markNext_33) = true := tchk_app tc_X3_markNext_33 ts_X3_markNext_34
set_option maxRecDepth 100000 in
theorem tc_X3_markNext_32 : tchk2 zty 43 zprog zsm zhts [] 4 ze_X3_markNext te_X3_markNext_0 [3, 46] tsp_X3_markNext 35 tl_X3_markNext_32 tr_X3_markNext_32 = true := by decide +kernel
theorem ts_X3_markNext_32 : tchk zty 43 zprog zsm zhts [] 4 ze_X3_markNext te_X3_markNext_0 [3, 46] tsp_X3_markNext 35 (tl_X3_markNext_32 ++ tr_X3_markNext_32) = true := tchk_app tc_X3_markNext_32 ts_X3_markNext_33
set_option maxRecDepth 100000 in
theorem tc_X3_markNext_31 : tchk2 zty 43 zprog zsm zhts [] 4 ze_X3_markNext te_X3_markNext_0 [3, 46] tsp_X3_markNext 35 tl_X3_markNext_31 tr_X3_markNext_31 = true := by decide +kernel
theorem ts_X3_markNext_31 : tchk zty 43 zprog zsm zhts [] 4 ze_X3_markNext te_X3_markNext_0 [3, 46] tsp_X3_markNext 35 (tl_X3_markNext_31 ++ tr_X3_markNext_31) = true := tchk_app tc_X3_markNext_31 ts_X3_markNext_32
set_option maxRecDepth 100000 in
theorem tc_X3_markNext_30 : tchk2 zty 43 zprog zsm zhts [] 4 ze_X3_markNext te_X3_markNext_0 [3, 46] tsp_X3_markNext 35 tl_X3_markNext_30 tr_X3_markNext_30 = true := by decide +kernel
theorem ts_X3_markNext_30 : tchk zty 43 zprog zsm zhts [] 4 ze_X3_markNext te_X3_markNext_0 [3, 46] tsp_X3_markNext 35 (tl_X3_markNext_30 ++ tr_X3_markNext_30) = true := tchk_app tc_X3_markNext_30 ts_X3_markNext_31
set_option maxRecDepth 100000 in
theorem tc_X3_markNext_29 : tchk2 zty 43 zprog zsm zhts [] 4 ze_X3_markNext te_X3_markNext_0 [3, 46] tsp_X3_markNext 35 tl_X3_markNext_29 tr_X3_markNext_29 = true := by decide +kernel
theorem ts_X3_markNext_29 : tchk zty 43 zprog zsm zhts [] 4 ze_X3_markNext te_X3_markNext_0 [3, 46] tsp_X3_markNext 35 (tl_X3_markNext_29 ++ tr_X3_markNext_29) = true := tchk_app tc_X3_markNext_29 ts_X3_markNext_30
set_option maxRecDepth 100000 in
theorem tc_X3_markNext_28 : tchk2 zty 43 zprog zsm zhts [] 4 ze_X3_markNext te_X3_markNext_0 [3, 46] tsp_X3_markNext 35 tl_X3_markNext_28 tr_X3_markNext_28 = true := by decide +kernel
theorem ts_X3_markNext_28 : tchk zty 43 zprog zsm zhts [] 4 ze_X3_markNext te_X3_markNext_0 [3, 46] tsp_X3_markNext 35 (tl_X3_markNext_28 ++ tr_X3_markNext_28) = true := tchk_app tc_X3_markNext_28 ts_X3_markNext_29
set_option maxRecDepth 100000 in
theorem tc_X3_markNext_27 : tchk2 zty 43 zprog zsm zhts [] 4 ze_X3_markNext te_X3_markNext_0 [3, 46] tsp_X3_markNext 35 tl_X3_markNext_27 tr_X3_markNext_27 = true := by decide +kernel
theorem ts_X3_markNext_27 : tchk zty 43 zprog zsm zhts [] 4 ze_X3_markNext te_X3_markNext_0 [3, 46] tsp_X3_markNext 35 (tl_X3_markNext_27 ++ tr_X3_markNext_27) = true := tchk_app tc_X3_markNext_27 ts_X3_markNext_28
set_option maxRecDepth 100000 in
theorem tc_X3_markNext_26 : tchk2 zty 43 zprog zsm zhts [] 4 ze_X3_markNext te_X3_markNext_0 [3, 46] tsp_X3_markNext 35 tl_X3_markNext_26 tr_X3_markNext_26 = true := by decide +kernel
theorem ts_X3_markNext_26 : tchk zty 43 zprog zsm zhts [] 4 ze_X3_markNext te_X3_markNext_0 [3, 46] tsp_X3_markNext 35 (tl_X3_markNext_26 ++ tr_X3_markNext_26) = true := tchk_app tc_X3_markNext_26 ts_X3_markNext_27
set_option maxRecDepth 100000 in
theorem tc_X3_markNext_25 : tchk2 zty 43 zprog zsm zhts [] 4 ze_X3_markNext te_X3_markNext_0 [3, 46] tsp_X3_markNext 35 tl_X3_markNext_25 tr_X3_markNext_25 = true := by decide +kernel
theorem ts_X3_markNext_25 : tchk zty 43 zprog zsm zhts [] 4 ze_X3_markNext te_X3_markNext_0 [3, 46] tsp_X3_markNext 35 (tl_X3_markNext_25 ++ tr_X3_markNext_25) = true := tchk_app tc_X3_markNext_25 ts_X3_markNext_26
set_option maxRecDepth 100000 in
theorem tc_X3_markNext_24 : tchk2 zty 43 zprog zsm zhts [] 4 ze_X3_markNext te_X3_markNext_0 [3, 46] tsp_X3_markNext 35 tl_X3_markNext_24 tr_X3_markNext_24 = true := by decide +kernel
theorem ts_X3_markNext_24 : tchk zty 43 zprog zsm zhts [] 4 ze_X3_markNext te_X3_markNext_0 [3, 46] tsp_X3_markNext 35 (tl_X3_markNext_24 ++ tr_X3_markNext_24) = true := tchk_app tc_X3_markNext_24 ts_X3_markNext_25
set_option maxRecDepth 100000 in
theorem tc_X3_markNext_23 : tchk2 zty 43 zprog zsm zhts [] 4 ze_X3_markNext te_X3_markNext_0 [3, 46] tsp_X3_markNext 35 tl_X3_markNext_23 tr_X3_markNext_23 = true := by decide +kernel
theorem ts_X3_markNext_23 : tchk zty 43 zprog zsm zhts [] 4 ze_X3_markNext te_X3_markNext_0 [3, 46] tsp_X3_markNext 35 (tl_X3_markNext_23 ++ tr_X3_markNext_23) = true := tchk_app tc_X3_markNext_23 ts_X3_markNext_24
set_option maxRecDepth 100000 in
theorem tc_X3_markNext_22 : tchk2 zty 43 zprog zsm zhts [] 4 ze_X3_markNext te_X3_markNext_0 [3, 46] tsp_X3_markNext 35 tl_X3_markNext_22 tr_X3_markNext_22 = true := by decide +kernel
theorem ts_X3_markNext_22 : tchk zty 43 zprog zsm zhts [] 4 ze_X3_markNext te_X3_markNext_0 [3, 46] tsp_X3_markNext 35 (tl_X3_markNext_22 ++ tr_X3_markNext_22) = true := tchk_app tc_X3_markNext_22 ts_X3_markNext_23
set_option maxRecDepth 100000 in
theorem tc_X3_markNext_21 : tchk2 zty 43 zprog zsm zhts [] 4 ze_X3_markNext te_X3_markNext_0 [3, 46] tsp_X3_markNext 35 tl_X3_markNext_21 tr_X3_markNext_21 = true := by decide +kernel
theorem ts_X3_markNext_21 : tchk zty 43 zprog zsm zhts [] 4 ze_X3_markNext te_X3_markNext_0 [3, 46] tsp_X3_markNext 35 (tl_X3_markNext_21 ++ tr_X3_markNext_21) = true := tchk_app tc_X3_markNext_21 ts_X3_markNext_22
set_option maxRecDepth 100000 in
theorem tc_X3_markNext_20 : tchk2 zty 43 zprog zsm zhts [] 4 ze_X3_markNext te_X3_markNext_0 [3, 46] tsp_X3_markNext 35 tl_X3_markNext_20 tr_X3_markNext_20 = true := by decide +kernel
theorem ts_X3_markNext_20 : tchk zty 43 zprog zsm zhts [] 4 ze_X3_markNext te_X3_markNext_0 [3, 46] tsp_X3_markNext 35 (tl_X3_markNext_20 ++ tr_X3_markNext_20) = true := tchk_app tc_X3_markNext_20 ts_X3_markNext_21
set_option maxRecDepth 100000 in
theorem tc_X3_markNext_19 : tchk2 zty 43 zprog zsm zhts [] 4 ze_X3_markNext te_X3_markNext_0 [3, 46] tsp_X3_markNext 35 tl_X3_markNext_19 tr_X3_markNext_19 = true := by decide +kernel
theorem ts_X3_markNext_19 : tchk zty 43 zprog zsm zhts [] 4 ze_X3_markNext te_X3_markNext_0 [3, 46] tsp_X3_markNext 35 (tl_X3_markNext_19 ++ tr_X3_markNext_19) = true := tchk_app tc_X3_markNext_19 ts_X3_markNext_20
set_option maxRecDepth 100000 in
theorem tc_X3_markNext_18 : tchk2 zty 43 zprog zsm zhts [] 4 ze_X3_markNext te_X3_markNext_0 [3, 46] tsp_X3_markNext 35 tl_X3_markNext_18 tr_X3_markNext_18 = true := by decide +kernel
theorem ts_X3_markNext_18 : tchk zty 43 zprog zsm zhts [] 4 ze_X3_markNext te_X3_markNext_0 [3, 46] tsp_X3_markNext 35 (tl_X3_markNext_18 ++ tr_X3_markNext_18) = true := tchk_app tc_X3_markNext_18 ts_X3_markNext_19
set_option maxRecDepth 100000 in
theorem tc_X3_markNext_17 : tchk2 zty 43 zprog zsm zhts [] 4 ze_X3_markNext te_X3_markNext_0 [3, 46] tsp_X3_markNext 35 tl_X3_markNext_17 tr_X3_markNext_17 = true := by decide +kernel
theorem ts_X3_markNext_17 : tchk zty 43 zprog zsm zhts [] 4 ze_X3_markNext te_X3_markNext_0 [3, 46] tsp_X3_markNext 35 (tl_X3_markNext_17 ++ tr_X3_markNext_17) = true := tchk_app tc_X3_markNext_17 ts_X3_markNext_18
set_option maxRecDepth 100000 in
theorem tc_X3_markNext_16 : tchk2 zty 43 zprog zsm zhts [] 4 ze_X3_markNext te_X3_markNext_0 [3, 46] tsp_X3_markNext 35 tl_X3_markNext_16 tr_X3_markNext_16 = true := by decide +kernel
theorem ts_X3_markNext_16 : tchk zty 43 zprog zsm zhts [] 4 ze_X3_markNext te_X3_markNext_0 [3, 46] tsp_X3_markNext 35 (tl_X3_markNext_16 ++ tr_X3_markNext_16) = true := tchk_app tc_X3_markNext_16 ts_X3_markNext_17
set_option maxRecDepth 100000 in
theorem tc_X3_markNext_15 : tchk2 zty 43 zprog zsm zhts [] 4 ze_X3_markNext te_X3_markNext_0 [3, 46] tsp_X3_markNext 35 tl_X3_markNext_15 tr_X3_markNext_15 = true := by decide +kernel
theorem ts_X3_markNext_15 : tchk zty 43 zprog zsm zhts [] 4 ze_X3_markNext te_X3_markNext_0 [3, 46] tsp_X3_markNext 35 (tl_X3_markNext_15 ++ tr_X3_markNext_15) = true := tchk_app tc_X3_markNext_15 ts_X3_markNext_16
set_option maxRecDepth 100000 in
theorem tc_X3_markNext_14 : tchk2 zty 43 zprog zsm zhts [] 4 ze_X3_markNext te_X3_markNext_0 [3, 46] tsp_X3_markNext 35 tl_X3_markNext_14 tr_X3_markNext_14 = true := by decide +kernel
theorem ts_X3_markNext_14 : tchk zty 43 zprog zsm zhts [] 4 ze_X3_markNext te_X3_markNext_0 [3, 46] tsp_X3_markNext 35 (tl_X3_markNext_14 ++ tr_X3_markNext_14) = true := tchk_app tc_X3_markNext_14 ts_X3_markNext_15
set_option maxRecDepth 100000 in
theorem tc_X3_markNext_13 : tchk2 zty 43 zprog zsm zhts [] 4 ze_X3_markNext te_X3_markNext_0 [3, 46] tsp_X3_markNext 35 tl_X3_markNext_13 tr_X3_markNext_13 = true := by decide +kernel
theorem ts_X3_markNext_13 : tchk zty 43 zprog zsm zhts [] 4 ze_X3_markNext te_X3_markNext_0 [3, 46] tsp_X3_markNext 35 (tl_X3_markNext_13 ++ tr_X3_markNext_13) = true := tchk_app tc_X3_markNext_13 ts_X3_markNext_14
