set_option maxRecDepth 100000 in
theorem tc_X5_chain_69 : tchk2 zty 43 zprog zsm zhts [] 3 ze_X5_chain te_X5_chain_0 [48, 65, 103] tsp_X5_chain 25 tl_X5_chain_69 tr_X5_chain_69 = true := by decide +kernel
theorem ts_X5_chain_69 : tchk zty 43 zprog zsm zhts [] 3 ze_X5_chain te_X5_chain_0 [48, 65, 103] tsp_X5_chain 25 (tl_X5_chain_69 ++ tr_X5_chain_69) = true := tchk_app tc_X5_chain_69 ts_X5_chain_70
set_option maxRecDepth 100000 in
theorem tc_X5_chain_68 : tchk2 zty 43 zprog zsm zhts [] 3 ze_X5_chain te_X5_chain_0 [48, 65, 103] tsp_X5_chain 25 tl_X5_chain_68 tr_X5_chain_68 = true := by decide +kernel
theorem ts_X5_chain_68 : tchk zty 43 zprog zsm zhts [] 3 ze_X5_chain te_X5_chain_0 [48, 65, 103] tsp_X5_chain 25 (tl_X5_chain_68 ++ tr_X5_chain_68) = true := tchk_app tc_X5_chain_68 ts_X5_chain_69
set_option maxRecDepth 100000 in
theorem tc_X5_chain_67 : tchk2 zty 43 zprog zsm zhts [] 3 ze_X5_chain te_X5_chain_0 [48, 65, 103] tsp_X5_chain 25 tl_X5_chain_67 tr_X5_chain_67 = true := by decide +kernel
theorem ts_X5_chain_67 : tchk zty 43 zprog zsm zhts [] 3 ze_X5_chain te_X5_chain_0 [48, 65, 103] tsp_X5_chain 25 (tl_X5_chain_67 ++ tr_X5_chain_67) = true := tchk_app tc_X5_chain_67 ts_X5_chain_68
set_option maxRecDepth 100000 in
theorem tc_X5_chain_66 : tchk2 zty 43 zprog zsm zhts [] 3 ze_X5_chain te_X5_chain_0 [48, 65, 103] tsp_X5_chain 25 tl_X5_chain_66 tr_X5_chain_66 = true := by decide +kernel
theorem ts_X5_chain_66 : tchk zty 43 zprog zsm zhts [] 3 ze_X5_chain te_X5_chain_0 [48, 65, 103] tsp_X5_chain 25 (tl_X5_chain_66 ++ tr_X5_chain_66) = true := tchk_app tc_X5_chain_66 ts_X5_chain_67
set_option maxRecDepth 100000 in
theorem tc_X5_chain_65 : tchk2 zty 43 zprog zsm zhts [] 3 ze_X5_chain te_X5_chain_0 [48, 65, 103] tsp_X5_chain 25 tl_X5_chain_65 tr_X5_chain_65 = true := by decide +kernel
theorem ts_X5_chain_65 : tchk zty 43 zprog zsm zhts [] 3 ze_X5_chain te_X5_chain_0 [48, 65, 103] tsp_X5_chain 25 (tl_X5_chain_65 ++ tr_X5_chain_65) = true := tchk_app tc_X5_chain_65 ts_X5_chain_66
set_option maxRecDepth 100000 in
theorem tc_X5_chain_64 : tchk2 zty 43 zprog zsm zhts [] 3 ze_X5_chain te_X5_chain_0 [48, 65, 103] tsp_X5_chain 25 tl_X5_chain_64 tr_X5_chain_64 = true := by decide +kernel
theorem ts_X5_chain_64 : tchk zty 43 zprog zsm zhts [] 3 ze_X5_chain te_X5_chain_0 [48, 65, 103] tsp_X5_chain 25 (tl_X5_chain_64 ++ tr_X5_chain_64) = true := tchk_app tc_X5_chain_64 ts_X5_chain_65
set_option maxRecDepth 100000 in
theorem tc_X5_chain_63 : tchk2 zty 43 zprog zsm zhts [] 3 ze_X5_chain te_X5_chain_0 [48, 65, 103] tsp_X5_chain 25 tl_X5_chain_63 tr_X5_chain_63 = true := by decide +kernel
theorem ts_X5_chain_63 : tchk zty 43 zprog zsm zhts [] 3 ze_X5_chain te_X5_chain_0 [48, 65, 103] tsp_X5_chain 25 (tl_X5_chain_63 ++ tr_X5_chain_63) = true := tchk_app tc_X5_chain_63 ts_X5_chain_64
set_option maxRecDepth 100000 in
theorem tc_X5_chain_62 : tchk2 zty 43 zprog zsm zhts [] 3 ze_X5_chain te_X5_chain_0 [48, 65, 103] tsp_X5_chain 25 tl_X5_chain_62 tr_X5_chain_62 = true := by decide +kernel
theorem ts_X5_chain_62 : tchk zty 43 zprog zsm zhts [] 3 ze_X5_chain te_X5_chain_0 [48, 65, 103] tsp_X5_chain 25 (tl_X5_chain_62 ++ tr_X5_chain_62) = true := tchk_app tc_X5_chain_62 ts_X5_chain_63
set_option maxRecDepth 100000 in
theorem tc_X5_chain_61 : tchk2 zty 43 zprog zsm zhts [] 3 ze_X5_chain te_X5_chain_0 [48, 65, 103] tsp_X5_chain 25 tl_X5_chain_61 tr_X5_chain_61 = true := by decide +kernel
theorem ts_X5_chain_61 : tchk zty 43 zprog zsm zhts [] 3 ze_X5_chain te_X5_chain_0 [48, 65, 103] tsp_X5_chain 25 (tl_X5_chain_61 ++ tr_X5_chain_61) = true := tchk_app tc_X5_chain_61 ts_X5_chain_62
set_option maxRecDepth 100000 in
theorem tc_X5_chain_60 : tchk2 zty 43 zprog zsm zhts [] 3 ze_X5_chain te_X5_chain_0 [48, 65, 103] tsp_X5_chain 25 tl_X5_chain_60 tr_X5_chain_60 = true := by decide +kernel
theorem ts_X5_chain_60 : tchk zty 43 zprog zsm zhts [] 3 ze_X5_chain te_X5_chain_0 [48, 65, 103] tsp_X5_chain 25 (tl_X5_chain_60 ++ tr_X5_chain_60) = true := tchk_app tc_X5_chain_60 ts_X5_chain_61
set_option maxRecDepth 100000 in
theorem tc_X5_chain_59 : tchk2 zty 43 zprog zsm zhts [] 3 ze_X5_chain te_X5_chain_0 [48, 65, 103] tsp_X5_chain 25 tl_X5_chain_59 tr_X5_chain_59 = true := by decide +kernel
theorem ts_X5_chain_59 : tchk zty 43 zprog zsm zhts [] 3 ze_X5_chain te_X5_chain_0 [48, 65, 103] tsp_X5_chain 25 (tl_X5_chain_59 ++ tr_X5_chain_59) = true := tchk_app tc_X5_chain_59 ts_X5_chain_60
set_option maxRecDepth 100000 in
theorem tc_X5_chain_58 : tchk2 zty 43 zprog zsm zhts [] 3 ze_X5_chain te_X5_chain_0 [48, 65, 103] tsp_X5_chain 25 tl_X5_chain_58 tr_X5_chain_58 = true := by decide +kernel
theorem ts_X5_chain_58 : tchk zty 43 zprog zsm zhts [] 3 ze_X5_chain te_X5_chain_0 [48, 65, 103] tsp_X5_chain 25 (tl_X5_chain_58 ++ tr_X5_chain_58) = true := tchk_app tc_X5_chain_58 ts_X5_chain_59
set_option maxRecDepth 100000 in
theorem tc_X5_chain_57 : tchk2 zty 43 zprog zsm zhts [] 3 ze_X5_chain te_X5_chain_0 [48, 65, 103] tsp_X5_chain 25 tl_X5_chain_57 tr_X5_chain_57 = true := by decide +kernel
theorem ts_X5_chain_57 : tchk zty 43 zprog zsm zhts [] 3 ze_X5_chain te_X5_chain_0 [48, 65, 103] tsp_X5_chain 25 (tl_X5_chain_57 ++ tr_X5_chain_57) = true := tchk_app tc_X5_chain_57 ts_X5_chain_58
set_option maxRecDepth 100000 in
theorem tc_X5_chain_56 : tchk2 zty 43 zprog zsm zhts [] 3 ze_X5_chain te_X5_chain_0 [48, 65, 103] tsp_X5_chain 25 tl_X5_chain_56 tr_X5_chain_56 = true := by decide +kernel
theorem ts_X5_chain_56 : tchk zty 43 zprog zsm zhts [] 3 ze_X5_chain te_X5_chain_0 [48, 65, 103] tsp_X5_chain 25 (tl_X5_chain_56 ++ tr_X5_chain_56) = true := tchk_app tc_X5_chain_56 ts_X5_chain_57
set_option maxRecDepth 100000 in
theorem tc_X5_chain_55 : tchk2 zty 43 zprog zsm zhts [] 3 ze_X5_chain te_X5_chain_0 [48, 65, 103] tsp_X5_chain 25 tl_X5_chain_55 tr_X5_chain_55 = true := by decide +kernel
theorem ts_X5_chain_55 : tchk zty 43 zprog zsm zhts [] 3 ze_X5_chain te_X5_chain_0 [48, 65, 103] tsp_X5_chain 25 (tl_X5_chain_55 ++ tr_X5_chain_55) = true := tchk_app tc_X5_chain_55 ts_X5_chain_56
set_option maxRecDepth 100000 in
theorem tc_X5_chain_54 : tchk2 zty 43 zprog zsm zhts [] 3 ze_X5_chain te_X5_chain_0 [48, 65, 103] tsp_X5_chain 25 tl_X5_chain_54 tr_X5_chain_54 = true := by decide +kernel
theorem ts_X5_chain_54 : tchk zty 43 zprog zsm zhts [] 3 ze_X5_chain te_X5_chain_0 [48, 65, 103] tsp_X5_chain 25 (tl_X5_chain_54 ++ tr_X5_chain_54) = true := tchk_app tc_X5_chain_54 ts_X5_chain_55
set_option maxRecDepth 100000 in
theorem tc_X5_chain_53 : tchk2 zty 43 zprog zsm zhts [] 3 ze_X5_chain te_X5_chain_0 [48, 65, 103] tsp_X5_chain 25 tl_X5_chain_53 tr_X5_chain_53 = true := by decide +kernel
theorem ts_X5_chain_53 : tchk zty 43 zprog zsm zhts [] 3 ze_X5_chain te_X5_chain_0 [48, 65, 103] tsp_X5_chain 25 (tl_X5_chain_53 ++ tr_X5_chain_53) = true := tchk_app tc_X5_chain_53 ts_X5_chain_54
set_option maxRecDepth 100000 in
theorem tc_X5_chain_52 : tchk2 zty 43 zprog zsm zhts [] 3 ze_X5_chain te_X5_chain_0 [48, 65, 103] tsp_X5_chain 25 tl_X5_chain_52 tr_X5_chain_52 = true := by decide +kernel
theorem ts_X5_chain_52 : tchk zty 43 zprog zsm zhts [] 3 ze_X5_chain te_X5_chain_0 [48, 65, 103] tsp_X5_chain 25 (tl_X5_chain_52 ++ tr_X5_chain_52) = true := tchk_app tc_X5_chain_52 ts_X5_chain_53
set_option maxRecDepth 100000 in
theorem tc_X5_chain_51 : tchk2 zty 43 zprog zsm zhts [] 3 ze_X5_chain te_X5_chain_0 [48, 65, 103] tsp_X5_chain 25 tl_X5_chain_51 tr_X5_chain_51 = true := by decide +kernel
theorem ts_X5_chain_51 : tchk zty 43 zprog zsm zhts [] 3 ze_X5_chain te_X5_chain_0 [48, 65, 103] tsp_X5_chain 25 (tl_X5_chain_51 ++ tr_X5_chain_51) = true := tchk_app tc_X5_chain_51 ts_X5_chain_52
set_option maxRecDepth 100000 in
theorem tc_X5_chain_50 : tchk2 zty 43 zprog zsm zhts [] 3 ze_X5_chain te_X5_chain_0 [48, 65, 103] tsp_X5_chain 25 tl_X5_chain_50 tr_X5_chain_50 = true := by decide +kernel
theorem ts_X5_chain_50 : tchk zty 43 zprog zsm zhts [] 3 ze_X5_chain te_X5_chain_0 [48, 65, 103] tsp_X5_chain 25 (tl_X5_chain_50 ++ tr_X5_chain_50) = true := tchk_app tc_X5_chain_50 ts_X5_chain_51
set_option maxRecDepth 100000 in
theorem tc_X5_chain_49 : tchk2 zty 43 zprog zsm zhts [] 3 ze_X5_chain te_X5_chain_0 [48, 65, 103] tsp_X5_chain 25 tl_X5_chain_49 tr_X5_chain_49 = true := by decide +kernel
theorem ts_X5_chain_49 : tchk zty 43 zprog zsm zhts [] 3 ze_X5_chain te_X5_chain_0 [48, 65, 103] tsp_X5_chain 25 (tl_X5_chain_49 ++ tr_X5_chain_49) = true := tchk_app tc_X5_chain_49 ts_X5_chain_50
set_option maxRecDepth 100000 in
theorem tc_X5_chain_48 : tchk2 zty 43 zprog zsm zhts [] 3 ze_X5_chain te_X5_chain_0 [48, 65, 103] tsp_X5_chain 25 tl_X5_chain_48 tr_X5_chain_48 = true := by decide +kernel
theorem ts_X5_chain_48 : tchk zty 43 zprog zsm zhts [] 3 ze_X5_chain te_X5_chain_0 [48, 65, 103] tsp_X5_chain 25 (tl_X5_chain_48 ++ tr_X5_chain_48) = true := tchk_app tc_X5_chain_48 ts_X5_chain_49
set_option maxRecDepth 100000 in
theorem tc_X5_chain_47 : tchk2 zty 43 zprog zsm zhts [] 3 ze_X5_chain te_X5_chain_0 [48, 65, 103] tsp_X5_chain 25 tl_X5_chain_47 tr_X5_chain_47 = true := by decide +kernel
theorem ts_X5_chain_47 : tchk zty 43 zprog zsm zhts [] 3 ze_X5_chain te_X5_chain_0 [48, 65, 103] tsp_X5_chain 25 (tl_X5_chain_47 ++ tr_X5_chain_47) = true := tchk_app tc_X5_chain_47 ts_X5_chain_48
set_option maxRecDepth 100000 in
theorem tc_X5_chain_46 : tchk2 zty 43 zprog zsm zhts [] 3 ze_X5_chain te_X5_chain_0 [48, 65, 103] tsp_X5_chain 25 tl_X5_chain_46 tr_X5_chain_46 = true := by decide +kernel
theorem ts_X5_chain_46 : tchk zty 43 zprog zsm zhts [] 3 ze_X5_chain te_X5_chain_0 [48, 65, 103] tsp_X5_chain 25 (tl_X5_chain_46 ++ tr_X5_chain_46) = true := tchk_app tc_X5_chain_46 ts_X5_chain_47
set_option maxRecDepth 100000 in
theorem tc_X5_chain_45 : tchk2 zty 43 zprog zsm zhts [] 3 ze_X5_chain te_X5_chain_0 [48, 65, 103] tsp_X5_chain 25 tl_X5_chain_45 tr_X5_chain_45 = true := by decide +kernel
theorem ts_X5_chain_45 : tchk zty 43 zprog zsm zhts [] 3 ze_X5_chain te_X5_chain_0 [48, 65, 103] tsp_X5_chain 25 (tl_X5_chain_45 ++ tr_X5_chain_45) = true := tchk_app tc_X5_chain_45 ts_X5_chain_46
set_option maxRecDepth 100000 in
theorem tc_X5_chain_44 : tchk2 zty 43 zprog zsm zhts [] 3 ze_X5_chain te_X5_chain_0 [48, 65, 103] tsp_X5_chain 25 tl_X5_chain_44 tr_X5_chain_44 = true := by decide +kernel
theorem ts_X5_chain_44 : tchk zty 43 zprog zsm zhts [] 3 ze_X5_chain te_X5_chain_0 [48, 65, 103] tsp_X5_chain 25 (tl_X5_chain_44 ++ tr_X5_chain_44) = true := tchk_app tc_X5_chain_44 ts_X5_chain_45
set_option maxRecDepth 100000 in
theorem tc_X5_chain_43 : tchk2 zty 43 zprog zsm zhts [] 3 ze_X5_chain te_X5_chain_0 [48, 65, 103] tsp_X5_chain 25 tl_X5_chain_43 tr_X5_chain_43 = true := by decide +kernel
theorem ts_X5_chain_43 : tchk zty 43 zprog zsm zhts [] 3 ze_X5_chain te_X5_chain_0 [48, 65, 103] tsp_X5_chain 25 (tl_X5_chain_43 ++ tr_X5_chain_43) = true := tchk_app tc_X5_chain_43 ts_X5_chain_44
set_option maxRecDepth 100000 in
theorem tc_X5_chain_42 : tchk2 zty 43 zprog zsm zhts [] 3 ze_X5_chain te_X5_chain_0 [48, 65, 103] tsp_X5_chain 25 tl_X5_chain_42 tr_X5_chain_42 = true := by decide +kernel
theorem ts_X5_chain_42 : tchk zty 43 zprog zsm zhts [] 3 ze_X5_chain te_X5_chain_0 [48, 65, 103] tsp_X5_chain 25 (tl_X5_chain_42 ++ tr_X5_chain_42) = true := tchk_app tc_X5_chain_42 ts_X5_chain_43
set_option maxRecDepth 100000 in
theorem tc_X5_chain_41 : tchk2 zty 43 zprog zsm zhts [] 3 ze_X5_chain te_X5_chain_0 [48, 65, 103] tsp_X5_chain 25 tl_X5_chain_41 tr_X5_chain_41 = true := by decide +kernel
theorem ts_X5_chain_41 : tchk zty 43 zprog zsm zhts [] 3 ze_X5_chain te_X5_chain_0 [48, 65, 103] tsp_X5_chain 25 (tl_X5_chain_41 ++ tr_X5_chain_41) = true := tchk_app tc_X5_chain_41 ts_X5_chain_42
set_option maxRecDepth 100000 in
theorem tc_X5_chain_40 : tchk2 zty 43 zprog zsm zhts [] 3 ze_X5_chain te_X5_chain_0 [48, 65, 103] tsp_X5_chain 25 tl_X5_chain_40 tr_X5_chain_40 = true := by decide +kernel
theorem ts_X5_chain_40 : tchk zty 43 zprog zsm zhts [] 3 ze_X5_chain te_X5_chain_0 [48, 65, 103] tsp_X5_chain 25 (tl_X5_chain_40 ++ tr_X5_chain_40) = true := tchk_app tc_X5_chain_40 ts_X5_chain_41
