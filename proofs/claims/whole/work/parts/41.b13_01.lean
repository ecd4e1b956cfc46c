set_option maxRecDepth 100000 in
theorem tc_X3_markNext_72 : tchk2 zty 43 zprog zsm zhts [] 4 ze_X3_markNext te_X3_markNext_0 [3, 46] tsp_X3_markNext 35 tl_X3_markNext_72 tr_X3_markNext_72 = true := by decide +kernel
theorem ts_X3_markNext_72 : tchk zty 43 zprog zsm zhts [] 4 ze_X3_markNext te_X3_markNext_0 [3, 46] tsp_X3_markNext 35 (tl_X3_markNext_72 ++ tr_X3_markNext_72) = true := tchk_app tc_X3_markNext_72 ts_X3_markNext_73
set_option maxRecDepth 100000 in
theorem tc_X3_markNext_71 : tchk2 zty 43 zprog zsm zhts [] 4 ze_X3_markNext te_X3_markNext_0 [3, 46] tsp_X3_markNext 35 tl_X3_markNext_71 tr_X3_markNext_71 = true := by decide +kernel
theorem ts_X3_markNext_71 : tchk zty 43 zprog zsm zhts [] 4 ze_X3_markNext te_X3_markNext_0 [3, 46] tsp_X3_markNext 35 (tl_X3_markNext_71 ++ tr_X3_markNext_71) = true := tchk_app tc_X3_markNext_71 ts_X3_markNext_72
set_option maxRecDepth 100000 in
theorem tc_X3_markNext_70 : tchk2 zty 43 zprog zsm zhts [] 4 ze_X3_markNext te_X3_markNext_0 [3, 46] tsp_X3_markNext 35 tl_X3_markNext_70 tr_X3_markNext_70 = true := by decide +kernel
theorem ts_X3_markNext_70 : tchk zty 43 zprog zsm zhts [] 4 ze_X3_markNext te_X3_markNext_0 [3, 46] tsp_X3_markNext 35 (tl_X3_markNext_70 ++ tr_X3_markNext_70) = true := tchk_app tc_X3_markNext_70 ts_X3_markNext_71
set_option maxRecDepth 100000 in
theorem tc_X3_markNext_69 : tchk2 zty 43 zprog zsm zhts [] 4 ze_X3_markNext te_X3_markNext_0 [3, 46] tsp_X3_markNext 35 tl_X3_markNext_69 tr_X3_markNext_69 = true := by decide +kernel
theorem ts_X3_markNext_69 : tchk zty 43 zprog zsm zhts [] 4 ze_X3_markNext te_X3_markNext_0 [3, 46] tsp_X3_markNext 35 (tl_X3_markNext_69 ++ tr_X3_markNext_69) = true := tchk_app tc_X3_markNext_69 ts_X3_markNext_70
set_option maxRecDepth 100000 in
theorem tc_X3_markNext_68 : tchk2 zty 43 zprog zsm zhts [] 4 ze_X3_markNext te_X3_markNext_0 [3, 46] tsp_X3_markNext 35 tl_X3_markNext_68 tr_X3_markNext_68 = true := by decide +kernel
theorem ts_X3_markNext_68 : tchk zty 43 zprog zsm zhts [] 4 ze_X3_markNext te_X3_markNext_0 [3, 46] tsp_X3_markNext 35 (tl_X3_markNext_68 ++ tr_X3_markNext_68) = true := tchk_app tc_X3_markNext_68 ts_X3_markNext_69
set_option maxRecDepth 100000 in
theorem tc_X3_markNext_67 : tchk2 zty 43 zprog zsm zhts [] 4 ze_X3_markNext te_X3_markNext_0 [3, 46] tsp_X3_markNext 35 tl_X3_markNext_67 tr_X3_markNext_67 = true := by decide +kernel
theorem ts_X3_markNext_67 : tchk zty 43 zprog zsm zhts [] 4 ze_X3_markNext te_X3_markNext_0 [3, 46] tsp_X3_markNext 35 (tl_X3_markNext_67 ++ tr_X3_markNext_67) = true := tchk_app tc_X3_markNext_67 ts_X3_markNext_68
set_option maxRecDepth 100000 in
theorem tc_X3_markNext_66 : tchk2 zty 43 zprog zsm zhts [] 4 ze_X3_markNext te_X3_markNext_0 [3, 46] tsp_X3_markNext 35 tl_X3_markNext_66 tr_X3_markNext_66 = true := by decide +kernel
theorem ts_X3_markNext_66 : tchk zty 43 zprog zsm zhts [] 4 ze_X3_markNext te_X3_markNext_0 [3, 46] tsp_X3_markNext 35 (tl_X3_markNext_66 ++ tr_X3_markNext_66) = true := tchk_app tc_X3_markNext_66 ts_X3_markNext_67
set_option maxRecDepth 100000 in
theorem tc_X3_markNext_65 : tchk2 zty 43 zprog zsm zhts [] 4 ze_X3_markNext te_X3_markNext_0 [3, 46] tsp_X3_markNext 35 tl_X3_markNext_65 tr_X3_markNext_65 = true := by decide +kernel
theorem ts_X3_markNext_65 : tchk zty 43 zprog zsm zhts [] 4 ze_X3_markNext te_X3_markNext_0 [3, 46] tsp_X3_markNext 35 (tl_X3_markNext_65 ++ tr_X3_markNext_65) = true := tchk_app tc_X3_markNext_65 ts_X3_markNext_66
set_option maxRecDepth 100000 in
theorem tc_X3_markNext_64 : tchk2 zty 43 zprog zsm zhts [] 4 ze_X3_markNext te_X3_markNext_0 [3, 46] tsp_X3_markNext 35 tl_X3_markNext_64 tr_X3_markNext_64 = true := by decide +kernel
theorem ts_X3_markNext_64 : tchk zty 43 zprog zsm zhts [] 4 ze_X3_markNext te_X3_markNext_0 [3, 46] tsp_X3_markNext 35 (tl_X3_markNext_64 ++ tr_X3_markNext_64) = true := tchk_app tc_X3_markNext_64 ts_X3_markNext_65
set_option maxRecDepth 100000 in
theorem tc_X3_markNext_63 : tchk2 zty 43 zprog zsm zhts [] 4 ze_X3_markNext te_X3_markNext_0 [3, 46] tsp_X3_markNext 35 tl_X3_markNext_63 tr_X3_markNext_63 = true := by decide +kernel
theorem ts_X3_markNext_63 : tchk zty 43 zprog zsm zhts [] 4 ze_X3_markNext te_X3_markNext_0 [3, 46] tsp_X3_markNext 35 (tl_X3_markNext_63 ++ tr_X3_markNext_63) = true := tchk_app tc_X3_markNext_63 ts_X3_markNext_64
set_option maxRecDepth 100000 in
theorem tc_X3_markNext_62 : tchk2 zty 43 zprog zsm zhts [] 4 ze_X3_markNext te_X3_markNext_0 [3, 46] tsp_X3_markNext 35 tl_X3_markNext_62 tr_X3_markNext_62 = true := by decide +kernel
theorem ts_X3_markNext_62 : tchk zty 43 zprog zsm zhts [] 4 ze_X3_markNext te_X3_markNext_0 [3, 46] tsp_X3_markNext 35 (tl_X3_markNext_62 ++ tr_X3_markNext_62) = true := tchk_app tc_X3_markNext_62 ts_X3_markNext_63
set_option maxRecDepth 100000 in
theorem tc_X3_markNext_61 : tchk2 zty 43 zprog zsm zhts [] 4 ze_X3_markNext te_X3_markNext_0 [3, 46] tsp_X3_markNext 35 tl_X3_markNext_61 tr_X3_markNext_61 = true := by decide +kernel
theorem ts_X3_markNext_61 : tchk zty 43 zprog zsm zhts [] 4 ze_X3_markNext te_X3_markNext_0 [3, 46] tsp_X3_markNext 35 (tl_X3_markNext_61 ++ tr_X3_markNext_61) = true := tchk_app tc_X3_markNext_61 ts_X3_markNext_62
set_option maxRecDepth 100000 in
theorem tc_X3_markNext_60 : tchk2 zty 43 zprog zsm zhts [] 4 ze_X3_markNext te_X3_markNext_0 [3, 46] tsp_X3_markNext 35 tl_X3_markNext_60 tr_X3_markNext_60 = true := by decide +kernel
theorem ts_X3_markNext_60 : tchk zty 43 zprog zsm zhts [] 4 ze_X3_markNext te_X3_markNext_0 [3, 46] tsp_X3_markNext 35 (tl_X3_markNext_60 ++ tr_X3_markNext_60) = true := tchk_app tc_X3_markNext_60 ts_X3_markNext_61
set_option maxRecDepth 100000 in
theorem tc_X3_markNext_59 : tchk2 zty 43 zprog zsm zhts [] 4 ze_X3_markNext te_X3_markNext_0 [3, 46] tsp_X3_markNext 35 tl_X3_markNext_59 tr_X3_markNext_59 = true := by decide +kernel
theorem ts_X3_markNext_59 : tchk zty 43 zprog zsm zhts [] 4 ze_X3_markNext te_X3_markNext_0 [3, 46] tsp_X3_markNext 35 (tl_X3_markNext_59 ++ tr_X3_markNext_59) = true := tchk_app tc_X3_markNext_59 ts_X3_markNext_60
set_option maxRecDepth 100000 in
theorem tc_X3_markNext_58 : tchk2 zty 43 zprog zsm zhts [] 4 ze_X3_markNext te_X3_markNext_0 [3, 46] tsp_X3_markNext 35 tl_X3_markNext_58 tr_X3_markNext_58 = true := by decide +kernel
theorem ts_X3_markNext_58 : tchk zty 43 zprog zsm zhts [] 4 ze_X3_markNext te_X3_markNext_0 [3, 46] tsp_X3_markNext 35 (tl_X3_markNext_58 ++ tr_X3_markNext_58) = true := tchk_app tc_X3_markNext_58 ts_X3_markNext_59
set_option maxRecDepth 100000 in
theorem tc_X3_markNext_57 : tchk2 zty 43 zprog zsm zhts [] 4 ze_X3_markNext te_X3_markNext_0 [3, 46] tsp_X3_markNext 35 tl_X3_markNext_57 tr_X3_markNext_57 = true := by decide +kernel
theorem ts_X3_markNext_57 : tchk zty 43 zprog zsm zhts [] 4 ze_X3_markNext te_X3_markNext_0 [3, 46] tsp_X3_markNext 35 (tl_X3_markNext_57 ++ tr_X3_markNext_57) = true := tchk_app tc_X3_markNext_57 ts_X3_markNext_58
set_option maxRecDepth 100000 in
theorem tc_X3_markNext_56 : tchk2 zty 43 zprog zsm zhts [] 4 ze_X3_markNext te_X3_markNext_0 [3, 46] tsp_X3_markNext 35 tl_X3_markNext_56 tr_X3_markNext_56 = true := by decide +kernel
theorem ts_X3_markNext_56 : tchk zty 43 zprog zsm zhts [] 4 ze_X3_markNext te_X3_markNext_0 [3, 46] tsp_X3_markNext 35 (tl_X3_markNext_56 ++ tr_X3_markNext_56) = true := tchk_app tc_X3_markNext_56 ts_X3_markNext_57
set_option maxRecDepth 100000 in
theorem tc_X3_markNext_55 : tchk2 zty 43 zprog zsm zhts [] 4 ze_X3_markNext te_X3_markNext_0 [3, 46] tsp_X3_markNext 35 tl_X3_markNext_55 tr_X3_markNext_55 = true := by decide +kernel
theorem ts_X3_markNext_55 : tchk zty 43 zprog zsm zhts [] 4 ze_X3_markNext te_X3_markNext_0 [3, 46] tsp_X3_markNext 35 (tl_X3_markNext_55 ++ tr_X3_markNext_55) = true := tchk_app tc_X3_markNext_55 ts_X3_markNext_56
set_option maxRecDepth 100000 in
theorem tc_X3_markNext_54 : tchk2 zty 43 zprog zsm zhts [] 4 ze_X3_markNext te_X3_markNext_0 [3, 46] tsp_X3_markNext 35 tl_X3_markNext_54 tr_X3_markNext_54 = true := by decide +kernel
theorem ts_X3_markNext_54 : tchk zty 43 zprog zsm zhts [] 4 ze_X3_markNext te_X3_markNext_0 [3, 46] tsp_X3_markNext 35 (tl_X3_markNext_54 ++ tr_X3_markNext_54) = true := tchk_app tc_X3_markNext_54 ts_X3_markNext_55
set_option maxRecDepth 100000 in
theorem tc_X3_markNext_53 : tchk2 zty 43 zprog zsm zhts [] 4 ze_X3_markNext te_X3_markNext_0 [3, 46] tsp_X3_markNext 35 tl_X3_markNext_53 tr_X3_markNext_53 = true := by decide +kernel
theorem ts_X3_markNext_53 : tchk zty 43 zprog zsm zhts [] 4 ze_X3_markNext te_X3_markNext_0 [3, 46] tsp_X3_markNext 35 (tl_X3_markNext_53 ++ tr_X3_markNext_53) = true := tchk_app tc_X3_markNext_53 ts_X3_markNext_54
set_option maxRecDepth 100000 in
theorem tc_X3_markNext_52 : tchk2 zty 43 zprog zsm zhts [] 4 ze_X3_markNext te_X3_markNext_0 [3, 46] tsp_X3_markNext 35 tl_X3_markNext_52 tr_X3_markNext_52 = true := by decide +kernel
theorem ts_X3_markNext_52 : tchk zty 43 zprog zsm zhts [] 4 ze_X3_markNext te_X3_markNext_0 [3, 46] tsp_X3_markNext 35 (tl_X3_markNext_52 ++ tr_X3_markNext_52) = true := tchk_app tc_X3_markNext_52 ts_X3_markNext_53
set_option maxRecDepth 100000 in
theorem tc_X3_markNext_51 : tchk2 zty 43 zprog zsm zhts [] 4 ze_X3_markNext te_X3_markNext_0 [3, 46] tsp_X3_markNext 35 tl_X3_markNext_51 tr_X3_markNext_51 = true := by decide +kernel
theorem ts_X3_markNext_51 : tchk zty 43 zprog zsm zhts [] 4 ze_X3_markNext te_X3_markNext_0 [3, 46] tsp_X3_markNext 35 (tl_X3_markNext_51 ++ tr_X3_markNext_51) = true := tchk_app tc_X3_markNext_51 ts_X3_markNext_52
set_option maxRecDepth 100000 in
theorem tc_X3_markNext_50 : tchk2 zty 43 zprog zsm zhts [] 4 ze_X3_markNext te_X3_markNext_0 [3, 46] tsp_X3_markNext 35 tl_X3_markNext_50 tr_X3_markNext_50 = true := by decide +kernel
theorem ts_X3_markNext_50 : tchk zty 43 zprog zsm zhts [] 4 ze_X3_markNext te_X3_markNext_0 [3, 46] tsp_X3_markNext 35 (tl_X3_markNext_50 ++ tr_X3_markNext_50) = true := tchk_app tc_X3_markNext_50 ts_X3_markNext_51
set_option maxRecDepth 100000 in
theorem tc_X3_markNext_49 : tchk2 zty 43 zprog zsm zhts [] 4 ze_X3_markNext te_X3_markNext_0 [3, 46] tsp_X3_markNext 35 tl_X3_markNext_49 tr_X3_markNext_49 = true := by decide +kernel
theorem ts_X3_markNext_49 : tchk zty 43 zprog zsm zhts [] 4 ze_X3_markNext te_X3_markNext_0 [3, 46] tsp_X3_markNext 35 (tl_X3_markNext_49 ++ tr_X3_markNext_49) = true := tchk_app tc_X3_markNext_49 ts_X3_markNext_50
set_option maxRecDepth 100000 in
theorem tc_X3_markNext_48 : tchk2 zty 43 zprog zsm zhts [] 4 ze_X3_markNext te_X3_markNext_0 [3, 46] tsp_X3_markNext 35 tl_X3_markNext_48 tr_X3_markNext_48 = true := by decide +kernel
theorem ts_X3_markNext_48 : tchk zty 43 zprog zsm zhts [] 4 ze_X3_markNext te_X3_markNext_0 [3, 46] tsp_X3_markNext 35 (tl_X3_markNext_48 ++ tr_X3_markNext_48) = true := tchk_app tc_X3_markNext_48 ts_X3_markNext_49
set_option maxRecDepth 100000 in
theorem tc_X3_markNext_47 : tchk2 zty 43 zprog zsm zhts [] 4 ze_X3_markNext te_X3_markNext_0 [3, 46] tsp_X3_markNext 35 tl_X3_markNext_47 tr_X3_markNext_47 = true := by decide +kernel
theorem ts_X3_markNext_47 : tchk zty 43 zprog zsm zhts [] 4 ze_X3_markNext te_X3_markNext_0 [3, 46] tsp_X3_markNext 35 (tl_X3_markNext_47 ++ tr_X3_markNext_47) = true := tchk_app tc_X3_markNext_47 ts_X3_markNext_48
set_option maxRecDepth 100000 in
theorem tc_X3_markNext_46 : tchk2 zty 43 zprog zsm zhts [] 4 ze_X3_markNext te_X3_markNext_0 [3, 46] tsp_X3_markNext 35 tl_X3_markNext_46 tr_X3_markNext_46 = true := by decide +kernel
theorem ts_X3_markNext_46 : tchk zty 43 zprog zsm zhts [] 4 ze_X3_markNext te_X3_markNext_0 [3, 46] tsp_X3_markNext 35 (tl_X3_markNext_46 ++ tr_X3_markNext_46) = true := tchk_app tc_X3_markNext_46 ts_X3_markNext_47
set_option maxRecDepth 100000 in
theorem tc_X3_markNext_45 : tchk2 zty 43 zprog zsm zhts [] 4 ze_X3_markNext te_X3_markNext_0 [3, 46] tsp_X3_markNext 35 tl_X3_markNext_45 tr_X3_markNext_45 = true := by decide +kernel
theorem ts_X3_markNext_45 : tchk zty 43 zprog zsm zhts [] 4 ze_X3_markNext te_X3_markNext_0 [3, 46] tsp_X3_markNext 35 (tl_X3_markNext_45 ++ tr_X3_markNext_45) = true := tchk_app tc_X3_markNext_45 ts_X3_markNext_46
set_option maxRecDepth 100000 in
theorem tc_X3_markNext_44 : tchk2 zty 43 zprog zsm zhts [] 4 ze_X3_markNext te_X3_markNext_0 [3, 46] tsp_X3_markNext 35 tl_X3_markNext_44 tr_X3_markNext_44 = true := by decide +kernel
theorem ts_X3_markNext_44 : tchk zty 43 zprog zsm zhts [] 4 ze_X3_markNext te_X3_markNext_0 [3, 46] tsp_X3_markNext 35 (tl_X3_markNext_44 ++ tr_X3_markNext_44) = true := tchk_app tc_X3_markNext_44 ts_X3_markNext_45
set_option maxRecDepth 100000 in
theorem tc_X3_markNext_43 : tchk2 zty 43 zprog zsm zhts [] 4 ze_X3_markNext te_X3_markNext_0 [3, 46] tsp_X3_markNext 35 tl_X3_markNext_43 tr_X3_markNext_43 = true := by decide +kernel
theorem ts_X3_markNext_43 : tchk zty 43 zprog zsm zhts [] 4 ze_X3_markNext te_X3_markNext_0 [3, 46] tsp_X3_markNext 35 (tl_X3_markNext_43 ++ tr_X3_markNext_43) = true := tchk_app tc_X3_markNext_43 ts_X3_markNext_44
