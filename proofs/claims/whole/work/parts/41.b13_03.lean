set_option maxRecDepth 100000 in
theorem tc_X3_markNext_12 : tchk2 zty 43 zprog zsm zhts [] 4 ze_X3_markNext te_X3_markNext_0 [3, 46] tsp_X3_markNext 35 tl_X3_markNext_12 tr_X3_markNext_12 = true := by decide +kernel
theorem ts_X3_markNext_12 : tchk zty 43 zprog zsm zhts [] 4 ze_X3_markNext te_X3_markNext_0 [3, 46] tsp_X3_markNext 35 (tl_X3_markNext_12 ++ tr_X3_markNext_12) = true := tchk_app tc_X3_markNext_12 ts_X3_markNext_13
set_option maxRecDepth 100000 in
theorem tc_X3_markNext_11 : tchk2 zty 43 zprog zsm zhts [] 4 ze_X3_markNext te_X3_markNext_0 [3, 46] tsp_X3_markNext 35 tl_X3_markNext_11 tr_X3_markNext_11 = true := by decide +kernel
theorem ts_X3_markNext_11 : tchk zty 43 zprog zsm zhts [] 4 ze_X3_markNext te_X3_markNext_0 [3, 46] tsp_X3_markNext 35 (tl_X3_markNext_11 ++ tr_X3_markNext_11) = true := tchk_app tc_X3_markNext_11 ts_X3_markNext_12
set_option maxRecDepth 100000 in
theorem tc_X3_markNext_10 : tchk2 zty 43 zprog zsm zhts [] 4 ze_X3_markNext te_X3_markNext_0 [3, 46] tsp_X3_markNext 35 tl_X3_markNext_10 tr_X3_markNext_10 = true := by decide +kernel
theorem ts_X3_markNext_10 : tchk zty 43 zprog zsm zhts [] 4 ze_X3_markNext te_X3_markNext_0 [3, 46] tsp_X3_markNext 35 (tl_X3_markNext_10 ++ tr_X3_markNext_10) = true := tchk_app tc_X3_markNext_10 ts_X3_markNext_11
set_option maxRecDepth 100000 in
theorem tc_X3_markNext_9 : tchk2 zty 43 zprog zsm zhts [] 4 ze_X3_markNext te_X3_markNext_0 [3, 46] tsp_X3_markNext 35 tl_X3_markNext_9 tr_X3_markNext_9 = true := by decide +kernel
theorem ts_X3_markNext_9 : tchk zty 43 zprog zsm zhts [] 4 ze_X3_markNext te_X3_markNext_0 [3, 46] tsp_X3_markNext 35 (tl_X3_markNext_9 ++ tr_X3_markNext_9) = true := tchk_app tc_X3_markNext_9 ts_X3_markNext_10
set_option maxRecDepth 100000 in
theorem tc_X3_markNext_8 : tchk2 zty 43 zprog zsm zhts [] 4 ze_X3_markNext te_X3_markNext_0 [3, 46] tsp_X3_markNext 35 tl_X3_markNext_8 tr_X3_markNext_8 = true := by decide +kernel
theorem ts_X3_markNext_8 : tchk zty 43 zprog zsm zhts [] 4 ze_X3_markNext te_X3_markNext_0 [3, 46] tsp_X3_markNext 35 (tl_X3_markNext_8 ++ tr_X3_markNext_8) = true := tchk_app tc_X3_markNext_8 ts_X3_markNext_9
set_option maxRecDepth 100000 in
theorem tc_X3_markNext_7 : tchk2 zty 43 zprog zsm zhts [] 4 ze_X3_markNext te_X3_markNext_0 [3, 46] tsp_X3_markNext 35 tl_X3_markNext_7 tr_X3_markNext_7 = true := by decide +kernel
theorem ts_X3_markNext_7 : tchk zty 43 zprog zsm zhts [] 4 ze_X3_markNext te_X3_markNext_0 [3, 46] tsp_X3_markNext 35 (tl_X3_markNext_7 ++ tr_X3_markNext_7) = true := tchk_app tc_X3_markNext_7 ts_X3_markNext_8
set_option maxRecDepth 100000 in
theorem tc_X3_markNext_6 : tchk2 zty 43 zprog zsm zhts [] 4 ze_X3_markNext te_X3_markNext_0 [3, 46] tsp_X3_markNext 35 tl_X3_markNext_6 tr_X3_markNext_6 = true := by decide +kernel
theorem ts_X3_markNext_6 : tchk zty 43 zprog zsm zhts [] 4 ze_X3_markNext te_X3_markNext_0 [3, 46] tsp_X3_markNext 35 (tl_X3_markNext_6 ++ tr_X3_markNext_6) = true := tchk_app tc_X3_markNext_6 ts_X3_markNext_7
set_option maxRecDepth 100000 in
theorem tc_X3_markNext_5 : tchk2 zty 43 zprog zsm zhts [] 4 ze_X3_markNext te_X3_markNext_0 [3, 46] tsp_X3_markNext 35 tl_X3_markNext_5 tr_X3_markNext_5 = true := by decide +kernel
theorem ts_X3_markNext_5 : tchk zty 43 zprog zsm zhts [] 4 ze_X3_markNext te_X3_markNext_0 [3, 46] tsp_X3_markNext 35 (tl_X3_markNext_5 ++ tr_X3_markNext_5) = true := tchk_app tc_X3_markNext_5 ts_X3_markNext_6
set_option maxRecDepth 100000 in
theorem tc_X3_markNext_4 : tchk2 zty 43 zprog zsm zhts [] 4 ze_X3_markNext te_X3_markNext_0 [3, 46] tsp_X3_markNext 35 tl_X3_markNext_4 tr_X3_markNext_4 = true := by decide +kernel
theorem ts_X3_markNext_4 : tchk zty 43 zprog zsm zhts [] 4 ze_X3_markNext te_X3_markNext_0 [3, 46] tsp_X3_markNext 35 (tl_X3_markNext_4 ++ tr_X3_markNext_4) = true := tchk_app tc_X3_markNext_4 ts_X3_markNext_5
set_option maxRecDepth 100000 in
theorem tc_X3_markNext_3 : tchk2 zty 43 zprog zsm zhts [] 4 ze_X3_markNext te_X3_markNext_0 [3, 46] tsp_X3_markNext 35 tl_X3_markNext_3 tr_X3_markNext_3 = true := by decide +kernel
theorem ts_X3_markNext_3 : tchk zty 43 zprog zsm zhts [] 4 ze_X3_markNext te_X3_markNext_0 [3, 46] tsp_X3_markNext 35 (tl_X3_markNext_3 ++ tr_X3_markNext_3) = true := tchk_app tc_X3_markNext_3 ts_X3_markNext_4
set_option maxRecDepth 100000 in
theorem tc_X3_markNext_2 : tchk2 zty 43 zprog zsm zhts [] 4 ze_X3_markNext te_X3_markNext_0 [3, 46] tsp_X3_markNext 35 tl_X3_markNext_2 tr_X3_markNext_2 = true := by decide +kernel
theorem ts_X3_markNext_2 : tchk zty 43 zprog zsm zhts [] 4 ze_X3_markNext te_X3_markNext_0 [3, 46] tsp_X3_markNext 35 (tl_X3_markNext_2 ++ tr_X3_markNext_2) = true := tchk_app tc_X3_markNext_2 ts_X3_markNext_3
set_option maxRecDepth 100000 in
theorem tc_X3_markNext_1 : tchk2 zty 43 zprog zsm zhts [] 4 ze_X3_markNext te_X3_markNext_0 [3, 46] tsp_X3_markNext 35 tl_X3_markNext_1 tr_X3_markNext_1 = true := by decide +kernel
theorem ts_X3_markNext_1 : tchk zty 43 zprog zsm zhts [] 4 ze_X3_markNext te_X3_markNext_0 [3, 46] tsp_X3_markNext 35 (tl_X3_markNext_1 ++ tr_X3_markNext_1) = true := tchk_app tc_X3_markNext_1 ts_X3_markNext_2
set_option maxRecDepth 100000 in
theorem tc_X3_markNext_0 : tchk2 zty 43 zprog zsm zhts [] 4 ze_X3_markNext te_X3_markNext_0 [3, 46] tsp_X3_markNext 35 tl_X3_markNext_0 tr_X3_markNext_0 = true := by decide +kernel
theorem ts_X3_markNext_0 : tchk zty 43 zprog zsm zhts [] 4 ze_X3_markNext te_X3_markNext_0 [3, 46] tsp_X3_markNext 35 (tl_X3_markNext_0 ++ tr_X3_markNext_0) = true := tchk_app tc_X3_markNext_0 ts_X3_markNext_1
theorem tq_X3_markNext_0 {scr : List zV} {Φ : List Nat → zH → Prop} (hst : tStab zty 43 Φ) : tM zty Φ zprog scr zhts zsm 83 te_X3_markNext_0 := t_methL (E := ze_X3_markNext) (D0 := 4) (heads := [3, 46]) (sp := tsp_X3_markNext) (fuel := 35) (cuts := tr_X3_markNext_0) hst rfl rfl (by decide +kernel) ts_X3_markNext_0
