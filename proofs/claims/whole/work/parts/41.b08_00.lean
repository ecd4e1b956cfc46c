def tsp_X3_lookAt : Nat → Option (Nat × Int × Int) := fun _ => none
def tl_X3_lookAt_16 : List tCut := tfU 26 463 (fun x => (60, [(2, tI x x), (0, tR 3), (1, tR 1)], 0, 0))
def tr_X3_lookAt_16 : List tCut := []
def tl_X3_lookAt_15 : List tCut := tfU 48 415 (fun x => (60, [(2, tI x x), (0, tR 3), (1, tR 1)], 0, 0))
def tr_X3_lookAt_15 : List tCut := tl_X3_lookAt_16 ++ tr_X3_lookAt_16
def tl_X3_lookAt_14 : List tCut := tfU 48 367 (fun x => (60, [(2, tI x x), (0, tR 3), (1, tR 1)], 0, 0))
def tr_X3_lookAt_14 : List tCut := tl_X3_lookAt_15 ++ tr_X3_lookAt_15
def tl_X3_lookAt_13 : List tCut := tfU 48 319 (fun x => (60, [(2, tI x x), (0, tR 3), (1, tR 1)], 0, 0))
def tr_X3_lookAt_13 : List tCut := tl_X3_lookAt_14 ++ tr_X3_lookAt_14
def tl_X3_lookAt_12 : List tCut := tfU 48 271 (fun x => (60, [(2, tI x x), (0, tR 3), (1, tR 1)], 0, 0))
def tr_X3_lookAt_12 : List tCut := tl_X3_lookAt_13 ++ tr_X3_lookAt_13
def tl_X3_lookAt_11 : List tCut := tfU 48 223 (fun x => (60, [(2, tI x x), (0, tR 3), (1, tR 1)], 0, 0))
def tr_X3_lookAt_11 : List tCut := tl_X3_lookAt_12 ++ tr_X3_lookAt_12
def tl_X3_lookAt_10 : List tCut := tfU 48 175 (fun x => (60, [(2, tI x x), (0, tR 3), (1, tR 1)], 0, 0))
def tr_X3_lookAt_10 : List tCut := tl_X3_lookAt_11 ++ tr_X3_lookAt_11
def tl_X3_lookAt_9 : List tCut := tfU 48 127 (fun x => (60, [(2, tI x x), (0, tR 3), (1, tR 1)], 0, 0))
def tr_X3_lookAt_9 : List tCut := tl_X3_lookAt_10 ++ tr_X3_lookAt_10
def tl_X3_lookAt_8 : List tCut := tfU 48 79 (fun x => (60, [(2, tI x x), (0, tR 3), (1, tR 1)], 0, 0))
def tr_X3_lookAt_8 : List tCut := tl_X3_lookAt_9 ++ tr_X3_lookAt_9
def tl_X3_lookAt_7 : List tCut := tfU 48 31 (fun x => (60, [(2, tI x x), (0, tR 3), (1, tR 1)], 0, 0))
def tr_X3_lookAt_7 : List tCut := tl_X3_lookAt_8 ++ tr_X3_lookAt_8
def tl_X3_lookAt_6 : List tCut := tfU 17 240 (fun x => (36, [(2, tI x x), (0, tR 3), (1, tR 1)], 0, 0)) ++ (tfU 31 0 (fun x => (60, [(2, tI x x), (0, tR 3), (1, tR 1)], 0, 0)))
def tr_X3_lookAt_6 : List tCut := tl_X3_lookAt_7 ++ tr_X3_lookAt_7
def tl_X3_lookAt_5 : List tCut := tfU 48 192 (fun x => (36, [(2, tI x x), (0, tR 3), (1, tR 1)], 0, 0))
def tr_X3_lookAt_5 : List tCut := tl_X3_lookAt_6 ++ tr_X3_lookAt_6
def tl_X3_lookAt_4 : List tCut := tfU 48 144 (fun x => (36, [(2, tI x x), (0, tR 3), (1, tR 1)], 0, 0))
def tr_X3_lookAt_4 : List tCut := tl_X3_lookAt_5 ++ tr_X3_lookAt_5
def tl_X3_lookAt_3 : List tCut := tfU 48 96 (fun x => (36, [(2, tI x x), (0, tR 3), (1, tR 1)], 0, 0))
def tr_X3_lookAt_3 : List tCut := tl_X3_lookAt_4 ++ tr_X3_lookAt_4
def tl_X3_lookAt_2 : List tCut := tfU 48 48 (fun x => (36, [(2, tI x x), (0, tR 3), (1, tR 1)], 0, 0))
def tr_X3_lookAt_2 : List tCut := tl_X3_lookAt_3 ++ tr_X3_lookAt_3
def tl_X3_lookAt_1 : List tCut := tfU 48 0 (fun x => (36, [(2, tI x x), (0, tR 3), (1, tR 1)], 0, 0))
def tr_X3_lookAt_1 : List tCut := tl_X3_lookAt_2 ++ tr_X3_lookAt_2
def tl_X3_lookAt_0 : List tCut := [(0, tinit 0 te_X3_lookAt_0.1, 0, 0)]
def tr_X3_lookAt_0 : List tCut := tl_X3_lookAt_1 ++ tr_X3_lookAt_1
set_option maxRecDepth 100000 in
theorem tc_X3_lookAt_16 : tchk2 zty 43 zprog zsm zhts [] 2 ze_X3_lookAt te_X3_lookAt_0 [36, 60] tsp_X3_lookAt 22 tl_X3_lookAt_16 tr_X3_lookAt_16 = true := by decide +kernel
theorem ts_X3_lookAt_16 : tchk zty 43 zprog zsm zhts [] 2 ze_X3_lookAt te_X3_lookAt_0 [36, 60] tsp_X3_lookAt 22 (tl_X3_lookAt_16 ++ tr_X3_lookAt_16) = true := tchk_app tc_X3_lookAt_16 rfl
set_option maxRecDepth 100000 in
theorem tc_X3_lookAt_15 : tchk2 zty 43 zprog zsm zhts [] 2 ze_X3_lookAt te_X3_lookAt_0 [36, 60] tsp_X3_lookAt 22 tl_X3_lookAt_15 tr_X3_lookAt_15 = true := by decide +kernel
theorem ts_X3_lookAt_15 : tchk zty 43 zprog zsm zhts [] 2 ze_X3_lookAt te_X3_lookAt_0 [36, 60] tsp_X3_lookAt 22 (tl_X3_lookAt_15 ++ tr_X3_lookAt_15) = true := tchk_app tc_X3_lookAt_15 ts_X3_lookAt_16
set_option maxRecDepth 100000 in
theorem tc_X3_lookAt_14 : tchk2 zty 43 zprog zsm zhts [] 2 ze_X3_lookAt te_X3_lookAt_0 [36, 60] tsp_X3_lookAt 22 tl_X3_lookAt_14 tr_X3_lookAt_14 = true := by decide +kernel
theorem ts_X3_lookAt_14 : tchk zty 43 zprog zsm zhts [] 2 ze_X3_lookAt te_X3_lookAt_0 [36, 60] tsp_X3_lookAt 22 (tl_X3_lookAt_14 ++ tr_X3_lookAt_14) = true := tchk_app tc_X3_lookAt_14 ts_X3_lookAt_15
set_option maxRecDepth 100000 in
theorem tc_X3_lookAt_13 : tchk2 zty 43 zprog zsm zhts [] 2 ze_X3_lookAt te_X3_lookAt_0 [36, 60] tsp_X3_lookAt 22 tl_X3_lookAt_13 tr_X3_lookAt_13 = true := by decide +kernel
theorem ts_X3_lookAt_13 : tchk zty 43 zprog zsm zhts [] 2 ze_X3_lookAt te_X3_lookAt_0 [36, 60] tsp_X3_lookAt 22 (tl_X3_lookAt_13 ++ tr_X3_lookAt_13) = true := tchk_app tc_X3_lookAt_13 ts_X3_lookAt_14
set_option maxRecDepth 100000 in
theorem tc_X3_lookAt_12 : tchk2 zty 43 zprog zsm zhts [] 2 ze_X3_lookAt te_X3_lookAt_0 [36, 60] tsp_X3_lookAt 22 tl_X3_lookAt_12 tr_X3_lookAt_12 = true := by decide +kernel
theorem ts_X3_lookAt_12 : tchk zty 43 zprog zsm zhts [] 2 ze_X3_lookAt te_X3_lookAt_0 [36, 60] tsp_X3_lookAt 22 (tl_X3_lookAt_12 ++ tr_X3_lookAt_12) = true := tchk_app tc_X3_lookAt_12 ts_X3_lookAt_13
set_option maxRecDepth 100000 in
theorem tc_X3_lookAt_11 : tchk2 zty 43 zprog zsm zhts [] 2 ze_X3_lookAt te_X3_lookAt_0 [36, 60] tsp_X3_lookAt 22 tl_X3_lookAt_11 tr_X3_lookAt_11 = true := by decide +kernel
theorem ts_X3_lookAt_11 : tchk zty 43 zprog zsm zhts [] 2 ze_X3_lookAt te_X3_lookAt_0 [36, 60] tsp_X3_lookAt 22 (tl_X3_lookAt_11 ++ tr_X3_lookAt_11) = true := tchk_app tc_X3_lookAt_11 ts_X3_lookAt_12
set_option maxRecDepth 100000 in
theorem tc_X3_lookAt_10 : tchk2 zty 43 zprog zsm zhts [] 2 ze_X3_lookAt te_X3_lookAt_0 [36, 60] tsp_X3_lookAt 22 tl_X3_lookAt_10 tr_X3_lookAt_10 = true := by decide +kernel
theorem ts_X3_lookAt_10 : tchk zty 43 zprog zsm zhts [] 2 ze_X3_lookAt te_X3_lookAt_0 [36, 60] tsp_X3_lookAt 22 (tl_X3_lookAt_10 ++ tr_X3_lookAt_10) = true := tchk_app tc_X3_lookAt_10 ts_X3_lookAt_11
set_option maxRecDepth 100000 in
theorem tc_X3_lookAt_9 : tchk2 zty 43 zprog zsm zhts [] 2 ze_X3_lookAt te_X3_lookAt_0 [36, 60] tsp_X3_lookAt 22 tl_X3_lookAt_9 tr_X3_lookAt_9 = true := by decide +kernel
theorem ts_X3_lookAt_9 : tchk zty 43 zprog zsm zhts [] 2 ze_X3_lookAt te_X3_lookAt_0 [36, 60] tsp_X3_lookAt 22 (tl_X3_lookAt_9 ++ tr_X3_lookAt_9) = true := tchk_app tc_X3_lookAt_9 ts_X3_lookAt_10
set_option maxRecDepth 100000 in
theorem tc_X3_lookAt_8 : tchk2 zty 43 zprog zsm zhts [] 2 ze_X3_lookAt te_X3_lookAt_0 [36, 60] tsp_X3_lookAt 22 tl_X3_lookAt_8 tr_X3_lookAt_8 = true := by decide +kernel
theorem ts_X3_lookAt_8 : tchk zty 43 zprog zsm zhts [] 2 ze_X3_lookAt te_X3_lookAt_0 [36, 60] tsp_X3_lookAt 22 (tl_X3_lookAt_8 ++ tr_X3_lookAt_8) = true := tchk_app tc_X3_lookAt_8 ts_X3_lookAt_9
set_option maxRecDepth 100000 in
theorem tc_X3_lookAt_7 : tchk2 zty 43 zprog zsm zhts [] 2 ze_X3_lookAt te_X3_lookAt_0 [36, 60] tsp_X3_lookAt 22 tl_X3_lookAt_7 tr_X3_lookAt_7 = true := by decide +kernel
theorem ts_X3_lookAt_7 : tchk zty 43 zprog zsm zhts [] 2 ze_X3_lookAt te_X3_lookAt_0 [36, 60] tsp_X3_lookAt 22 (tl_X3_lookAt_7 ++ tr_X3_lookAt_7) = true := tchk_app tc_X3_lookAt_7 ts_X3_lookAt_8
set_option maxRecDepth 100000 in
theorem tc_X3_lookAt_6 : tchk2 zty 43 zprog zsm zhts [] 2 ze_X3_lookAt te_X3_lookAt_0 [36, 60] tsp_X3_lookAt 22 tl_X3_lookAt_6 tr_X3_lookAt_6 = true := by decide +kernel
theorem ts_X3_lookAt_6 : tchk zty 43 zprog zsm zhts [] 2 ze_X3_lookAt te_X3_lookAt_0 [36, 60] tsp_X3_lookAt 22 (tl_X3_lookAt_6 ++ tr_X3_lookAt_6) = true := tchk_app tc_X3_lookAt_6 ts_X3_lookAt_7
set_option maxRecDepth 100000 in
theorem tc_X3_lookAt_5 : tchk2 zty 43 zprog zsm zhts [] 2 ze_X3_lookAt te_X3_lookAt_0 [36, 60] tsp_X3_lookAt 22 tl_X3_lookAt_5 tr_X3_lookAt_5 = true := by decide +kernel
theorem ts_X3_lookAt_5 : tchk zty 43 zprog zsm zhts [] 2 ze_X3_lookAt te_X3_lookAt_0 [36, 60] tsp_X3_lookAt 22 (tl_X3_lookAt_5 ++ tr_X3_lookAt_5) = true := tchk_app tc_X3_lookAt_5 ts_X3_lookAt_6
set_option maxRecDepth 100000 in
theorem tc_X3_lookAt_4 : tchk2 zty 43 zprog zsm zhts [] 2 ze_X3_lookAt te_X3_lookAt_0 [36, 60] tsp_X3_lookAt 22 tl_X3_lookAt_4 tr_X3_lookAt_4 = true := by decide +kernel
theorem ts_X3_lookAt_4 : tchk zty 43 zprog zsm zhts [] 2 ze_X3_lookAt te_X3_lookAt_0 [36, 60] tsp_X3_lookAt 22 (tl_X3_lookAt_4 ++ tr_X3_lookAt_4) = true := tchk_app tc_X3_lookAt_4 ts_X3_lookAt_5
set_option maxRecDepth 100000 in
theorem tc_X3_lookAt_3 : tchk2 zty 43 zprog zsm zhts [] 2 ze_X3_lookAt te_X3_lookAt_0 [36, 60] tsp_X3_lookAt 22 tl_X3_lookAt_3 tr_X3_lookAt_3 = true := by decide +kernel
theorem ts_X3_lookAt_3 : tchk zty 43 zprog zsm zhts [] 2 ze_X3_lookAt te_X3_lookAt_0 [36, 60] tsp_X3_lookAt 22 (tl_X3_lookAt_3 ++ tr_X3_lookAt_3) = true := tchk_app tc_X3_lookAt_3 ts_X3_lookAt_4
set_option maxRecDepth 100000 in
theorem tc_X3_lookAt_2 : tchk2 zty 43 zprog zsm zhts [] 2 ze_X3_lookAt te_X3_lookAt_0 [36, 60] tsp_X3_lookAt 22 tl_X3_lookAt_2 tr_X3_lookAt_2 = true := by decide +kernel
theorem ts_X3_lookAt_2 : tchk zty 43 zprog zsm zhts [] 2 ze_X3_lookAt te_X3_lookAt_0 [36, 60] tsp_X3_lookAt 22 (tl_X3_lookAt_2 ++ tr_X3_lookAt_2) = true := tchk_app tc_X3_lookAt_2 ts_X3_lookAt_3
set_option maxRecDepth 100000 in
theorem tc_X3_lookAt_1 : tchk2 zty 43 zprog zsm zhts [] 2 ze_X3_lookAt te_X3_lookAt_0 [36, 60] tsp_X3_lookAt 22 tl_X3_lookAt_1 tr_X3_lookAt_1 = true := by decide +kernel
theorem ts_X3_lookAt_1 : tchk zty 43 zprog zsm zhts [] 2 ze_X3_lookAt te_X3_lookAt_0 [36, 60] tsp_X3_lookAt 22 (tl_X3_lookAt_1 ++ tr_X3_lookAt_1) = true := tchk_app tc_X3_lookAt_1 ts_X3_lookAt_2
set_option maxRecDepth 100000 in
theorem tc_X3_lookAt_0 : tchk2 zty 43 zprog zsm zhts [] 2 ze_X3_lookAt te_X3_lookAt_0 [36, 60] tsp_X3_lookAt 22 tl_X3_lookAt_0 tr_X3_lookAt_0 = true := by decide +kernel
theorem ts_X3_lookAt_0 : tchk zty 43 zprog zsm zhts [] 2 ze_X3_lookAt te_X3_lookAt_0 [36, 60] tsp_X3_lookAt 22 (tl_X3_lookAt_0 ++ tr_X3_lookAt_0) = true := tchk_app tc_X3_lookAt_0 ts_X3_lookAt_1
theorem tq_X3_lookAt_0 {scr : List zV} {Φ : List Nat → zH → Prop} (hst : tStab zty 43 Φ) : tM zty Φ zprog scr zhts zsm 81 te_X3_lookAt_0 := t_methL (E := ze_X3_lookAt) (D0 := 2) (heads := [36, 60]) (sp := tsp_X3_lookAt) (fuel := 22) (cuts := tr_X3_lookAt_0) hst rfl rfl (by decide +kernel) ts_X3_lookAt_0
