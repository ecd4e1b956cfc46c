set_option maxRecDepth 100000 in
theorem tc_X5_chain_99 : tchk2 zty 43 zprog zsm zhts [] 3 ze_X5_chain te_X5_chain_0 [48, 65, 103] tsp_X5_chain 25 tl_X5_chain_99 tr_X5_chain_99 = true := by decide +kernel
theorem ts_X5_chain_99 : tchk zty 43 zprog zsm zhts [] 3 ze_X5_chain te_X5_chain_0 [48, 65, 103] tsp_X5_chain 25 (tl_X5_chain_99 ++ tr_X5_chain_99) = true := tchk_app tc_X5_chain_99 ts_X5_chain_100
set_option maxRecDepth 100000 in
theorem tc_X5_chain_98 : tchk2 zty 43 zprog zsm zhts [] 3 ze_X5_chain te_X5_chain_0 [48, 65, 103] tsp_X5_chain 25 tl_X5_chain_98 tr_X5_chain_98 = true := by decide +kernel
theorem ts_X5_chain_98 : tchk zty 43 zprog zsm zhts [] 3 ze_X5_chain te_X5_chain_0 [48, 65, 103] tsp_X5_chain 25 (tl_X5_chain_98 ++ tr_X5_chain_98) = true := tchk_app tc_X5_chain_98 ts_X5_chain_99
set_option maxRecDepth 100000 in
theorem tc_X5_chain_97 : tchk2 zty 43 zprog zsm zhts [] 3 ze_X5_chain te_X5_chain_0 [48, 65, 103] tsp_X5_chain 25 tl_X5_chain_97 tr_X5_chain_97 = true := by decide +kernel
theorem ts_X5_chain_97 : tchk zty 43 zprog zsm zhts [] 3 ze_X5_chain te_X5_chain_0 [48, 65, 103] tsp_X5_chain 25 (tl_X5_chain_97 ++ tr_X5_chain_97) = true := tchk_app tc_X5_chain_97 ts_X5_chain_98
set_option maxRecDepth 100000 in
theorem tc_X5_chain_96 : tchk2 zty 43 zprog zsm zhts [] 3 ze_X5_chain te_X5_chain_0 [48, 65, 103] tsp_X5_chain 25 tl_X5_chain_96 tr_X5_chain_96 = true := by decide +kernel
theorem ts_X5_chain_96 : tchk zty 43 zprog zsm zhts [] 3 ze_X5_chain te_X5_chain_0 [48, 65, 103] tsp_X5_chain 25 (tl_X5_chain_96 ++ tr_X5_chain_96) = true := tchk_app tc_X5_chain_96 ts_X5_chain_97
set_option maxRecDepth 100000 in
theorem tc_X5_chain_95 : tchk2 zty 43 zprog zsm zhts [] 3 ze_X5_chain te_X5_chain_0 [48, 65, 103] tsp_X5_chain 25 tl_X5_chain_95 tr_X5_chain_95 = true := by decide +kernel
theorem ts_X5_chain_95 : tchk zty 43 zprog zsm zhts [] 3 ze_X5_chain te_X5_chain_0 [48, 65, 103] tsp_X5_chain 25 (tl_X5_chain_95 ++ tr_X5_chain_95) = true := tchk_app tc_X5_chain_95 ts_X5_chain_96
set_option maxRecDepth 100000 in
theorem tc_X5_chain_94 : tchk2 zty 43 zprog zsm zhts [] 3 ze_X5_chain te_X5_chain_0 [48, 65, 103] tsp_X5_chain 25 tl_X5_chain_94 tr_X5_chain_94 = true := by decide +kernel
theorem ts_X5_chain_94 : tchk zty 43 zprog zsm zhts [] 3 ze_X5_chain te_X5_chain_0 [48, 65, 103] tsp_X5_chain 25 (tl_X5_chain_94 ++ tr_X5_chain_94) = true := tchk_app tc_X5_chain_94 ts_X5_chain_95
set_option maxRecDepth 100000 in
theorem tc_X5_chain_93 : tchk2 zty 43 zprog zsm zhts [] 3 ze_X5_chain te_X5_chain_0 [48, 65, 103] tsp_X5_chain 25 tl_X5_chain_93 tr_X5_chain_93 = true := by decide +kernel
theorem ts_X5_chain_93 : tchk zty 43 zprog zsm zhts [] 3 ze_X5_chain te_X5_chain_0 [48, 65, 103] tsp_X5_chain 25 (tl_X5_chain_93 ++ tr_X5_chain_93) = true := tchk_app tc_X5_chain_93 ts_X5_chain_94
set_option maxRecDepth 100000 in
theorem tc_X5_chain_92 : tchk2 zty 43 zprog zsm zhts [] 3 ze_X5_chain te_X5_chain_0 [48, 65, 103] tsp_X5_chain 25 tl_X5_chain_92 tr_X5_chain_92 = true := by decide +kernel
theorem ts_X5_chain_92 : tchk zty 43 zprog zsm zhts [] 3 ze_X5_chain te_X5_chain_0 [48, 65, 103] tsp_X5_chain 25 (tl_X5_chain_92 ++ tr_X5_chain_92) = true := tchk_app tc_X5_chain_92 ts_X5_chain_93
set_option maxRecDepth 100000 in
theorem tc_X5_chain_91 : tchk2 zty 43 zprog zsm zhts [] 3 ze_X5_chain te_X5_chain_0 [48, 65, 103] tsp_X5_chain 25 tl_X5_chain_91 tr_X5_chain_91 = true := by decide +kernel
theorem ts_X5_chain_91 : tchk zty 43 zprog zsm zhts [] 3 ze_X5_chain te_X5_chain_0 [48, 65, 103] tsp_X5_chain 25 (tl_X5_chain_91 ++ tr_X5_chain_91) = true := tchk_app tc_X5_chain_91 ts_X5_chain_92
set_option maxRecDepth 100000 in
theorem tc_X5_chain_90 : tchk2 zty 43 zprog zsm zhts [] 3 ze_X5_chain te_X5_chain_0 [48, 65, 103] tsp_X5_chain 25 tl_X5_chain_90 tr_X5_chain_90 = true := by decide +kernel
theorem ts_X5_chain_90 : tchk zty 43 zprog zsm zhts [] 3 ze_X5_chain te_X5_chain_0 [48, 65, 103] tsp_X5_chain 25 (tl_X5_chain_90 ++ tr_X5_chain_90) = true := tchk_app tc_X5_chain_90 ts_X5_chain_91
set_option maxRecDepth 100000 in
theorem tc_X5_chain_89 : tchk2 zty 43 zprog zsm zhts [] 3 ze_X5_chain te_X5_chain_0 [48, 65, 103] tsp_X5_chain 25 tl_X5_chain_89 tr_X5_chain_89 = true := by decide +kernel
theorem ts_X5_chain_89 : tchk zty 43 zprog zsm zhts [] 3 ze_X5_chain te_X5_chain_0 [48, 65, 103] tsp_X5_chain 25 (tl_X5_chain_89 ++ tr_X5_chain_89) = true := tchk_app tc_X5_chain_89 ts_X5_chain_90
set_option maxRecDepth 100000 in
theorem tc_X5_chain_88 : tchk2 zty 43 zprog zsm zhts [] 3 ze_X5_chain te_X5_chain_0 [48, 65, 103] tsp_X5_chain 25 tl_X5_chain_88 tr_X5_chain_88 = true := by decide +kernel
theorem ts_X5_chain_88 : tchk zty 43 zprog zsm zhts [] 3 ze_X5_chain te_X5_chain_0 [48, 65, 103] tsp_X5_chain 25 (tl_X5_chain_88 ++ tr_X5_chain_88) = true := tchk_app tc_X5_chain_88 ts_X5_chain_89
set_option maxRecDepth 100000 in
theorem tc_X5_chain_87 : tchk2 zty 43 zprog zsm zhts [] 3 ze_X5_chain te_X5_chain_0 [48, 65, 103] tsp_X5_chain 25 tl_X5_chain_87 tr_X5_chain_87 = true := by decide +kernel
theorem ts_X5_chain_87 : tchk zty 43 zprog zsm zhts [] 3 ze_X5_chain te_X5_chain_0 [48, 65, 103] tsp_X5_chain 25 (tl_X5_chain_87 ++ tr_X5_chain_87) = true := tchk_app tc_X5_chain_87 ts_X5_chain_88
set_option maxRecDepth 100000 in
theorem tc_X5_chain_86 : tchk2 zty 43 zprog zsm zhts [] 3 ze_X5_chain te_X5_chain_0 [48, 65, 103] tsp_X5_chain 25 tl_X5_chain_86 tr_X5_chain_86 = true := by decide +kernel
theorem ts_X5_chain_86 : tchk zty 43 zprog zsm zhts [] 3 ze_X5_chain te_X5_chain_0 [48, 65, 103] tsp_X5_chain 25 (tl_X5_chain_86 ++ tr_X5_chain_86) = true := tchk_app tc_X5_chain_86 ts_X5_chain_87
set_option maxRecDepth 100000 in
theorem tc_X5_chain_85 : tchk2 zty 43 zprog zsm zhts [] 3 ze_X5_chain te_X5_chain_0 [48, 65, 103] tsp_X5_chain 25 tl_X5_chain_85 tr_X5_chain_85 = true := by decide +kernel
theorem ts_X5_chain_85 : tchk zty 43 zprog zsm zhts [] 3 ze_X5_chain te_X5_chain_0 [48, 65, 103] tsp_X5_chain 25 (tl_X5_chain_85 ++ tr_X5_chain_85) = true := tchk_app tc_X5_chain_85 ts_X5_chain_86
set_option maxRecDepth 100000 in
theorem tc_X5_chain_84 : tchk2 zty 43 zprog zsm zhts [] 3 ze_X5_chain te_X5_chain_0 [48, 65, 103] tsp_X5_chain 25 tl_X5_chain_84 tr_X5_chain_84 = true := by decide +kernel
theorem ts_X5_chain_84 : tchk zty 43 zprog zsm zhts [] 3 ze_X5_chain te_X5_chain_0 [48, 65, 103] tsp_X5_chain 25 (tl_X5_chain_84 ++ tr_X5_chain_84) = true := tchk_app tc_X5_chain_84 ts_X5_chain_85
set_option maxRecDepth 100000 in
theorem tc_X5_chain_83 : tchk2 zty 43 zprog zsm zhts [] 3 ze_X5_chain te_X5_chain_0 [48, 65, 103] tsp_X5_chain 25 tl_X5_chain_83 tr_X5_chain_83 = true := by decide +kernel
theorem ts_X5_chain_83 : tchk zty 43 zprog zsm zhts [] 3 ze_X5_chain te_X5_chain_0 [48, 65, 103] tsp_X5_chain 25 (tl_X5_chain_83 ++ tr_X5_chain_83) = true := tchk_app tc_X5_chain_83 ts_X5_chain_84
set_option maxRecDepth 100000 in
theorem tc_X5_chain_82 : tchk2 zty 43 zprog zsm zhts [] 3 ze_X5_chain te_X5_chain_0 [48, 65, 103] tsp_X5_chain 25 tl_X5_chain_82 tr_X5_chain_82 = true := by decide +kernel
theorem ts_X5_chain_82 : tchk zty 43 zprog zsm zhts [] 3 ze_X5_chain te_X5_chain_0 [48, 65, 103] tsp_X5_chain 25 (tl_X5_chain_82 ++ tr_X5_chain_82) = true := tchk_app tc_X5_chain_82 ts_X5_chain_83
set_option maxRecDepth 100000 in
theorem tc_X5_chain_81 : tchk2 zty 43 zprog zsm zhts [] 3 ze_X5_chain te_X5_chain_0 [48, 65, 103] tsp_X5_chain 25 tl_X5_chain_81 tr_X5_chain_81 = true := by decide +kernel
theorem ts_X5_chain_81 : tchk zty 43 zprog zsm zhts [] 3 ze_X5_chain te_X5_chain_0 [48, 65, 103] tsp_X5_chain 25 (tl_X5_chain_81 ++ tr_X5_chain_81) = true := tchk_app tc_X5_chain_81 ts_X5_chain_82
set_option maxRecDepth 100000 in
theorem tc_X5_chain_80 : tchk2 zty 43 zprog zsm zhts [] 3 ze_X5_chain te_X5_chain_0 [48, 65, 103] tsp_X5_chain 25 tl_X5_chain_80 tr_X5_chain_80 = true := by decide +kernel
theorem ts_X5_chain_80 : tchk zty 43 zprog zsm zhts [] 3 ze_X5_chain te_X5_chain_0 [48, 65, 103] tsp_X5_chain 25 (tl_X5_chain_80 ++ tr_X5_chain_80) = true := tchk_app tc_X5_chain_80 ts_X5_chain_81
set_option maxRecDepth 100000 in
theorem tc_X5_chain_79 : tchk2 zty 43 zprog zsm zhts [] 3 ze_X5_chain te_X5_chain_0 [48, 65, 103] tsp_X5_chain 25 tl_X5_chain_79 tr_X5_chain_79 = true := by decide +kernel
theorem ts_X5_chain_79 : tchk zty 43 zprog zsm zhts [] 3 ze_X5_chain te_X5_chain_0 [48, 65, 103] tsp_X5_chain 25 (tl_X5_chain_79 ++ tr_X5_chain_79) = true := tchk_app tc_X5_chain_79 ts_X5_chain_80
set_option maxRecDepth 100000 in
theorem tc_X5_chain_78 : tchk2 zty 43 zprog zsm zhts [] 3 ze_X5_chain te_X5_chain_0 [48, 65, 103] tsp_X5_chain 25 tl_X5_chain_78 tr_X5_chain_78 = true := by decide +kernel
theorem ts_X5_chain_78 : tchk zty 43 zprog zsm zhts [] 3 ze_X5_chain te_X5_chain_0 [48, 65, 103] tsp_X5_chain 25 (tl_X5_chain_78 ++ tr_X5_chain_78) = true := tchk_app tc_X5_chain_78 ts_X5_chain_79
set_option maxRecDepth 100000 in
theorem tc_X5_chain_77 : tchk2 zty 43 zprog zsm zhts [] 3 ze_X5_chain te_X5_chain_0 [48, 65, 103] tsp_X5_chain 25 tl_X5_chain_77 tr_X5_chain_77 = true := by decide +kernel
theorem ts_X5_chain_77 : tchk zty 43 zprog zsm zhts [] 3 ze_X5_chain te_X5_chain_0 [48, 65, 103] tsp_X5_chain 25 (tl_X5_chain_77 ++ tr_X5_chain_77) = true := tchk_app tc_X5_chain_77 ts_X5_chain_78
set_option maxRecDepth 100000 in
theorem tc_X5_chain_76 : tchk2 zty 43 zprog zsm zhts [] 3 ze_X5_chain te_X5_chain_0 [48, 65, 103] tsp_X5_chain 25 tl_X5_chain_76 tr_X5_chain_76 = true := by decide +kernel
theorem ts_X5_chain_76 : tchk zty 43 zprog zsm zhts [] 3 ze_X5_chain te_X5_chain_0 [48, 65, 103] tsp_X5_chain 25 (tl_X5_chain_76 ++ tr_X5_chain_76) = true := tchk_app tc_X5_chain_76 ts_X5_chain_77
set_option maxRecDepth 100000 in
theorem tc_X5_chain_75 : tchk2 zty 43 zprog zsm zhts [] 3 ze_X5_chain te_X5_chain_0 [48, 65, 103] tsp_X5_chain 25 tl_X5_chain_75 tr_X5_chain_75 = true := by decide +kernel
theorem ts_X5_chain_75 : tchk zty 43 zprog zsm zhts [] 3 ze_X5_chain te_X5_chain_0 [48, 65, 103] tsp_X5_chain 25 (tl_X5_chain_75 ++ tr_X5_chain_75) = true := tchk_app tc_X5_chain_75 ts_X5_chain_76
set_option maxRecDepth 100000 in
theorem tc_X5_chain_74 : tchk2 zty 43 zprog zsm zhts [] 3 ze_X5_chain te_X5_chain_0 [48, 65, 103] tsp_X5_chain 25 tl_X5_chain_74 tr_X5_chain_74 = true := by decide +kernel
theorem ts_X5_chain_74 : tchk zty 43 zprog zsm zhts [] 3 ze_X5_chain te_X5_chain_0 [48, 65, 103] tsp_X5_chain 25 (tl_X5_chain_74 ++ tr_X5_chain_74) = true := tchk_app tc_X5_chain_74 ts_X5_chain_75
set_option maxRecDepth 100000 in
theorem tc_X5_chain_73 : tchk2 zty 43 zprog zsm zhts [] 3 ze_X5_chain te_X5_chain_0 [48, 65, 103] tsp_X5_chain 25 tl_X5_chain_73 tr_X5_chain_73 = true := by decide +kernel
theorem ts_X5_chain_73 : tchk zty 43 zprog zsm zhts [] 3 ze_X5_chain te_X5_chain_0 [48, 65, 103] tsp_X5_chain 25 (tl_X5_chain_73 ++ tr_X5_chain_73) = true := tchk_app tc_X5_chain_73 ts_X5_chain_74
set_option maxRecDepth 100000 in
theorem tc_X5_chain_72 : tchk2 zty 43 zprog zsm zhts [] 3 ze_X5_chain te_X5_chain_0 [48, 65, 103] tsp_X5_chain 25 tl_X5_chain_72 tr_X5_chain_72 = true := by decide +kernel
theorem ts_X5_chain_72 : tchk zty 43 zprog zsm zhts [] 3 ze_X5_chain te_X5_chain_0 [48, 65, 103] tsp_X5_chain 25 (tl_X5_chain_72 ++ tr_X5_chain_72) = true := tchk_app tc_X5_chain_72 ts_X5_chain_73
set_option maxRecDepth 100000 in
theorem tc_X5_chain_71 : tchk2 zty 43 zprog zsm zhts [] 3 ze_X5_chain te_X5_chain_0 [48, 65, 103] tsp_X5_chain 25 tl_X5_chain_71 tr_X5_chain_71 = true := by decide +kernel
theorem ts_X5_chain_71 : tchk zty 43 zprog zsm zhts [] 3 ze_X5_chain te_X5_chain_0 [48, 65, 103] tsp_X5_chain 25 (tl_X5_chain_71 ++ tr_X5_chain_71) = true := tchk_app tc_X5_chain_71 ts_X5_chain_72
set_option maxRecDepth 100000 in
theorem tc_X5_chain_70 : tchk2 zty 43 zprog zsm zhts [] 3 ze_X5_chain te_X5_chain_0 [48, 65, 103] tsp_X5_chain 25 tl_X5_chain_70 tr_X5_chain_70 = true := by decide +kernel
theorem ts_X5_chain_70 : tchk zty 43 zprog zsm zhts [] 3 ze_X5_chain te_X5_chain_0 [48, 65, 103] tsp_X5_chain 25 (tl_X5_chain_70 ++ tr_X5_chain_70) = true := tchk_app tc_X5_chain_70 ts_X5_chain_71
