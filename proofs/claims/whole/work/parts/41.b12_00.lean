def tsp_X3_fillLayer : Nat → Option (Nat × Int × Int) := fun pc => if pc = 12 then some (5, 0, 255) else none
def tl_X3_fillLayer_6 : List tCut := tfD 16 15 (fun x => (12, [(5, tI x x), (0, tR 3), (1, tIf), (2, tIf), (3, tIf), (4, tIf)], 0, 0)) ++ ([(12, [(0, tR 3), (1, tIf), (2, tIf), (3, tIf), (4, tIf), (5, tI (-1) (-1)), (6, tIf)], 0, 0)])
def tr_X3_fillLayer_6 : List tCut := []
def tl_X3_fillLayer_5 : List tCut := tfD 48 63 (fun x => (12, [(5, tI x x), (0, tR 3), (1, tIf), (2, tIf), (3, tIf), (4, tIf)], 0, 0))
def tr_X3_fillLayer_5 : List tCut := tl_X3_fillLayer_6 ++ tr_X3_fillLayer_6
def tl_X3_fillLayer_4 : List tCut := tfD 48 111 (fun x => (12, [(5, tI x x), (0, tR 3), (1, tIf), (2, tIf), (3, tIf), (4, tIf)], 0, 0))
def tr_X3_fillLayer_4 : List tCut := tl_X3_fillLayer_5 ++ tr_X3_fillLayer_5
def tl_X3_fillLayer_3 : List tCut := tfD 48 159 (fun x => (12, [(5, tI x x), (0, tR 3), (1, tIf), (2, tIf), (3, tIf), (4, tIf)], 0, 0))
def tr_X3_fillLayer_3 : List tCut := tl_X3_fillLayer_4 ++ tr_X3_fillLayer_4
def tl_X3_fillLayer_2 : List tCut := tfD 48 207 (fun x => (12, [(5, tI x x), (0, tR 3), (1, tIf), (2, tIf), (3, tIf), (4, tIf)], 0, 0))
def tr_X3_fillLayer_2 : List tCut := tl_X3_fillLayer_3 ++ tr_X3_fillLayer_3
def tl_X3_fillLayer_1 : List tCut := tfD 48 255 (fun x => (12, [(5, tI x x), (0, tR 3), (1, tIf), (2, tIf), (3, tIf), (4, tIf)], 0, 0))
def tr_X3_fillLayer_1 : List tCut := tl_X3_fillLayer_2 ++ tr_X3_fillLayer_2
def tl_X3_fillLayer_0 : List tCut := [(0, tinit 0 te_X3_fillLayer_0.1, 0, 0)]
def tr_X3_fillLayer_0 : List tCut := tl_X3_fillLayer_1 ++ tr_X3_fillLayer_1
set_option maxRecDepth 100000 in
theorem tc_X3_fillLayer_6 : tchk2 zty 43 zprog zsm zhts [] 4 ze_X3_fillLayer te_X3_fillLayer_0 [12] tsp_X3_fillLayer 41 tl_X3_fillLayer_6 tr_X3_fillLayer_6 = true := by decide +kernel
theorem ts_X3_fillLayer_6 : tchk zty 43 zprog zsm zhts [] 4 ze_X3_fillLayer te_X3_fillLayer_0 [12] tsp_X3_fillLayer 41 (tl_X3_fillLayer_6 ++ tr_X3_fillLayer_6) = true := tchk_app tc_X3_fillLayer_6 rfl
set_option maxRecDepth 100000 in
theorem tc_X3_fillLayer_5 : tchk2 zty 43 zprog zsm zhts [] 4 ze_X3_fillLayer te_X3_fillLayer_0 [12] tsp_X3_fillLayer 41 tl_X3_fillLayer_5 tr_X3_fillLayer_5 = true := by decide +kernel
theorem ts_X3_fillLayer_5 : tchk zty 43 zprog zsm zhts [] 4 ze_X3_fillLayer te_X3_fillLayer_0 [12] tsp_X3_fillLayer 41 (tl_X3_fillLayer_5 ++ tr_X3_fillLayer_5) = true := tchk_app tc_X3_fillLayer_5 ts_X3_fillLayer_6
set_option maxRecDepth 100000 in
theorem tc_X3_fillLayer_4 : tchk2 zty 43 zprog zsm zhts [] 4 ze_X3_fillLayer te_X3_fillLayer_0 [12] tsp_X3_fillLayer 41 tl_X3_fillLayer_4 tr_X3_fillLayer_4 = true := by decide +kernel
theorem ts_X3_fillLayer_4 : tchk zty 43 zprog zsm zhts [] 4 ze_X3_fillLayer te_X3_fillLayer_0 [12] tsp_X3_fillLayer 41 (tl_X3_fillLayer_4 ++ tr_X3_fillLayer_4) = true := tchk_app tc_X3_fillLayer_4 ts_X3_fillLayer_5
set_option maxRecDepth 100000 in
theorem tc_X3_fillLayer_3 : tchk2 zty 43 zprog zsm zhts [] 4 ze_X3_fillLayer te_X3_fillLayer_0 [12] tsp_X3_fillLayer 41 tl_X3_fillLayer_3 tr_X3_fillLayer_3 = true := by decide +kernel
theorem ts_X3_fillLayer_3 : tchk zty 43 zprog zsm zhts [] 4 ze_X3_fillLayer te_X3_fillLayer_0 [12] tsp_X3_fillLayer 41 (tl_X3_fillLayer_3 ++ tr_X3_fillLayer_3) = true := tchk_app tc_X3_fillLayer_3 ts_X3_fillLayer_4
set_option maxRecDepth 100000 in
theorem tc_X3_fillLayer_2 : tchk2 zty 43 zprog zsm zhts [] 4 ze_X3_fillLayer te_X3_fillLayer_0 [12] tsp_X3_fillLayer 41 tl_X3_fillLayer_2 tr_X3_fillLayer_2 = true := by decide +kernel
theorem ts_X3_fillLayer_2 : tchk zty 43 zprog zsm zhts [] 4 ze_X3_fillLayer te_X3_fillLayer_0 [12] tsp_X3_fillLayer 41 (tl_X3_fillLayer_2 ++ tr_X3_fillLayer_2) = true := tchk_app tc_X3_fillLayer_2 ts_X3_fillLayer_3
set_option maxRecDepth 100000 in
theorem tc_X3_fillLayer_1 : tchk2 zty 43 zprog zsm zhts [] 4 ze_X3_fillLayer te_X3_fillLayer_0 [12] tsp_X3_fillLayer 41 tl_X3_fillLayer_1 tr_X3_fillLayer_1 = true := by decide +kernel
theorem ts_X3_fillLayer_1 : tchk zty 43 zprog zsm zhts [] 4 ze_X3_fillLayer te_X3_fillLayer_0 [12] tsp_X3_fillLayer 41 (tl_X3_fillLayer_1 ++ tr_X3_fillLayer_1) = true := tchk_app tc_X3_fillLayer_1 ts_X3_fillLayer_2
set_option maxRecDepth 100000 in
theorem tc_X3_fillLayer_0 : tchk2 zty 43 zprog zsm zhts [] 4 ze_X3_fillLayer te_X3_fillLayer_0 [12] tsp_X3_fillLayer 41 tl_X3_fillLayer_0 tr_X3_fillLayer_0 = true := by decide +kernel
theorem ts_X3_fillLayer_0 : tchk zty 43 zprog zsm zhts [] 4 ze_X3_fillLayer te_X3_fillLayer_0 [12] tsp_X3_fillLayer 41 (tl_X3_fillLayer_0 ++ tr_X3_fillLayer_0) = true := tchk_app tc_X3_fillLayer_0 ts_X3_fillLayer_1
theorem tq_X3_fillLayer_0 {scr : List zV} {Φ : List Nat → zH → Prop} (hst : tStab zty 43 Φ) : tM zty Φ zprog scr zhts zsm 78 te_X3_fillLayer_0 := t_methL (E := ze_X3_fillLayer) (D0 := 4) (heads := [12]) (sp := tsp_X3_fillLayer) (fuel := 41) (cuts := tr_X3_fillLayer_0) hst rfl rfl (by decide +kernel) ts_X3_fillLayer_0
