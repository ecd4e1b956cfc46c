set_option maxRecDepth 100000 in
theorem tc_X5_chain_9 : tchk2 zty 43 zprog zsm zhts [] 3 ze_X5_chain te_X5_chain_0 [48, 65, 103] tsp_X5_chain 25 tl_X5_chain_9 tr_X5_chain_9 = true := by decide +kernel
theorem ts_X5_chain_9 : tchk zty 43 zprog zsm zhts [] 3 ze_X5_chain te_X5_chain_0 [48, 65, 103] tsp_X5_chain 25 (tl_X5_chain_9 ++ tr_X5_chain_9) = true := tchk_app tc_X5_chain_9 ts_X5_chain_10
set_option maxRecDepth 100000 in
theorem tc_X5_chain_8 : tchk2 zty 43 zprog zsm zhts [] 3 ze_X5_chain te_X5_chain_0 [48, 65, 103] tsp_X5_chain 25 tl_X5_chain_8 tr_X5_chain_8 = true := by decide +kernel
theorem ts_X5_chain_8 : tchk zty 43 zprog zsm zhts [] 3 ze_X5_chain te_X5_chain_0 [48, 65, 103] tsp_X5_chain 25 (tl_X5_chain_8 ++ tr_X5_chain_8) = true := tchk_app tc_X5_chain_8 ts_X5_chain_9
set_option maxRecDepth 100000 in
theorem tc_X5_chain_7 : tchk2 zty 43 zprog zsm zhts [] 3 ze_X5_chain te_X5_chain_0 [48, 65, 103] tsp_X5_chain 25 tl_X5_chain_7 tr_X5_chain_7 = true := by decide +kernel
theorem ts_X5_chain_7 : tchk zty 43 zprog zsm zhts [] 3 ze_X5_chain te_X5_chain_0 [48, 65, 103] tsp_X5_chain 25 (tl_X5_chain_7 ++ tr_X5_chain_7) = true := tchk_app tc_X5_chain_7 ts_X5_chain_8
set_option maxRecDepth 100000 in
theorem tc_X5_chain_6 : tchk2 zty 43 zprog zsm zhts [] 3 ze_X5_chain te_X5_chain_0 [48, 65, 103] tsp_X5_chain 25 tl_X5_chain_6 tr_X5_chain_6 = true := by decide +kernel
theorem ts_X5_chain_6 : tchk zty 43 zprog zsm zhts [] 3 ze_X5_chain te_X5_chain_0 [48, 65, 103] tsp_X5_chain 25 (tl_X5_chain_6 ++ tr_X5_chain_6) = true := tchk_app tc_X5_chain_6 ts_X5_chain_7
set_option maxRecDepth 100000 in
theorem tc_X5_chain_5 : tchk2 zty 43 zprog zsm zhts [] 3 ze_X5_chain te_X5_chain_0 [48, 65, 103] tsp_X5_chain 25 tl_X5_chain_5 tr_X5_chain_5 = true := by decide +kernel
theorem ts_X5_chain_5 : tchk zty 43 zprog zsm zhts [] 3 ze_X5_chain te_X5_chain_0 [48, 65, 103] tsp_X5_chain 25 (tl_X5_chain_5 ++ tr_X5_chain_5) = true := tchk_app tc_X5_chain_5 ts_X5_chain_6
set_option maxRecDepth 100000 in
theorem tc_X5_chain_4 : tchk2 zty 43 zprog zsm zhts [] 3 ze_X5_chain te_X5_chain_0 [48, 65, 103] tsp_X5_chain 25 tl_X5_chain_4 tr_X5_chain_4 = true := by decide +kernel
theorem ts_X5_chain_4 : tchk zty 43 zprog zsm zhts [] 3 ze_X5_chain te_X5_chain_0 [48, 65, 103] tsp_X5_chain 25 (tl_X5_chain_4 ++ tr_X5_chain_4) = true := tchk_app tc_X5_chain_4 ts_X5_chain_5
set_option maxRecDepth 100000 in
theorem tc_X5_chain_3 : tchk2 zty 43 zprog zsm zhts [] 3 ze_X5_chain te_X5_chain_0 [48, 65, 103] tsp_X5_chain 25 tl_X5_chain_3 tr_X5_chain_3 = true := by decide +kernel
theorem ts_X5_chain_3 : tchk zty 43 zprog zsm zhts [] 3 ze_X5_chain te_X5_chain_0 [48, 65, 103] tsp_X5_chain 25 (tl_X5_chain_3 ++ tr_X5_chain_3) = true := tchk_app tc_X5_chain_3 ts_X5_chain_4
set_option maxRecDepth 100000 in
theorem tc_X5_chain_2 : tchk2 zty 43 zprog zsm zhts [] 3 ze_X5_chain te_X5_chain_0 [48, 65, 103] tsp_X5_chain 25 tl_X5_chain_2 tr_X5_chain_2 = true := by decide +kernel
theorem ts_X5_chain_2 : tchk zty 43 zprog zsm zhts [] 3 ze_X5_chain te_X5_chain_0 [48, 65, 103] tsp_X5_chain 25 (tl_X5_chain_2 ++ tr_X5_chain_2) = true := tchk_app tc_X5_chain_2 ts_X5_chain_3
set_option maxRecDepth 100000 in
theorem tc_X5_chain_1 : tchk2 zty 43 zprog zsm zhts [] 3 ze_X5_chain te_X5_chain_0 [48, 65, 103] tsp_X5_chain 25 tl_X5_chain_1 tr_X5_chain_1 = true := by decide +kernel
theorem ts_X5_chain_1 : tchk zty 43 zprog zsm zhts [] 3 ze_X5_chain te_X5_chain_0 [48, 65, 103] tsp_X5_chain 25 (tl_X5_chain_1 ++ tr_X5_chain_1) = true := tchk_app tc_X5_chain_1 ts_X5_chain_2
set_option maxRecDepth 100000 in
theorem tc_X5_chain_0 : tchk2 zty 43 zprog zsm zhts [] 3 ze_X5_chain te_X5_chain_0 [48, 65, 103] tsp_X5_chain 25 tl_X5_chain_0 tr_X5_chain_0 = true := by decide +kernel
theorem ts_X5_chain_0 : tchk zty 43 zprog zsm zhts [] 3 ze_X5_chain te_X5_chain_0 [48, 65, 103] tsp_X5_chain 25 (tl_X5_chain_0 ++ tr_X5_chain_0) = true := tchk_app tc_X5_chain_0 ts_X5_chain_1
theorem tq_X5_chain_0 {scr : List zV} {Φ : List Nat → zH → Prop} (hst : tStab zty 43 Φ) : tM zty Φ zprog scr zhts zsm 167 te_X5_chain_0 := t_methL (E := ze_X5_chain) (D0 := 3) (heads := [48, 65, 103]) (sp := tsp_X5_chain) (fuel := 25) (cuts := tr_X5_chain_0) hst rfl rfl (by decide +kernel) ts_X5_chain_0
