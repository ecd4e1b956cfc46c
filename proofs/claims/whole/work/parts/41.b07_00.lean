def tsp_X2_numberOf : Nat → Option (Nat × Int × Int) := fun pc => if pc = 7 then some (2, 0, 249) else none
def tl_X2_numberOf_6 : List tCut := tfU 11 240 (fun x => (7, [(2, tI x x), (0, tR 2), (1, tIf)], 0, 0))
def tr_X2_numberOf_6 : List tCut := []
def tl_X2_numberOf_5 : List tCut := tfU 48 192 (fun x => (7, [(2, tI x x), (0, tR 2), (1, tIf)], 0, 0))
def tr_X2_numberOf_5 : List tCut := tl_X2_numberOf_6 ++ tr_X2_numberOf_6
def tl_X2_numberOf_4 : List tCut := tfU 48 144 (fun x => (7, [(2, tI x x), (0, tR 2), (1, tIf)], 0, 0))
def tr_X2_numberOf_4 : List tCut := tl_X2_numberOf_5 ++ tr_X2_numberOf_5
def tl_X2_numberOf_3 : List tCut := tfU 48 96 (fun x => (7, [(2, tI x x), (0, tR 2), (1, tIf)], 0, 0))
def tr_X2_numberOf_3 : List tCut := tl_X2_numberOf_4 ++ tr_X2_numberOf_4
def tl_X2_numberOf_2 : List tCut := tfU 48 48 (fun x => (7, [(2, tI x x), (0, tR 2), (1, tIf)], 0, 0))
def tr_X2_numberOf_2 : List tCut := tl_X2_numberOf_3 ++ tr_X2_numberOf_3
def tl_X2_numberOf_1 : List tCut := [(7, [(0, tR 2), (1, tI 0 0), (2, tI 0 0)], 0, 0), (7, [(0, tR 2), (1, tI (-48) 207), (2, tI 1 1)], 0, 0)] ++ (tfU 46 2 (fun x => (7, [(2, tI x x), (0, tR 2), (1, tIf)], 0, 0)))
def tr_X2_numberOf_1 : List tCut := tl_X2_numberOf_2 ++ tr_X2_numberOf_2
def tl_X2_numberOf_0 : List tCut := [(0, tinit 0 te_X2_numberOf_0.1, 0, 0)]
def tr_X2_numberOf_0 : List tCut := tl_X2_numberOf_1 ++ tr_X2_numberOf_1
set_option maxRecDepth 100000 in
theorem tc_X2_numberOf_6 : tchk2 zty 43 zprog zsm zhts [] 0 ze_X2_numberOf te_X2_numberOf_0 [7] tsp_X2_numberOf 19 tl_X2_numberOf_6 tr_X2_numberOf_6 = true := by decide +kernel
theorem ts_X2_numberOf_6 : tchk zty 43 zprog zsm zhts [] 0 ze_X2_numberOf te_X2_numberOf_0 [7] tsp_X2_numberOf 19 (tl_X2_numberOf_6 ++ tr_X2_numberOf_6) = true := tchk_app tc_X2_numberOf_6 rfl
set_option maxRecDepth 100000 in
theorem tc_X2_numberOf_5 : tchk2 zty 43 zprog zsm zhts [] 0 ze_X2_numberOf te_X2_numberOf_0 [7] tsp_X2_numberOf 19 tl_X2_numberOf_5 tr_X2_numberOf_5 = true := by decide +kernel
theorem ts_X2_numberOf_5 : tchk zty 43 zprog zsm zhts [] 0 ze_X2_numberOf te_X2_numberOf_0 [7] tsp_X2_numberOf 19 (tl_X2_numberOf_5 ++ tr_X2_numberOf_5) = true := tchk_app tc_X2_numberOf_5 ts_X2_numberOf_6
set_option maxRecDepth 100000 in
theorem tc_X2_numberOf_4 : tchk2 zty 43 zprog zsm zhts [] 0 ze_X2_numberOf te_X2_numberOf_0 [7] tsp_X2_numberOf 19 tl_X2_numberOf_4 tr_X2_numberOf_4 = true := by decide +kernel
theorem ts_X2_numberOf_4 : tchk zty 43 zprog zsm zhts [] 0 ze_X2_numberOf te_X2_numberOf_0 [7] tsp_X2_numberOf 19 (tl_X2_numberOf_4 ++ tr_X2_numberOf_4) = true := tchk_app tc_X2_numberOf_4 ts_X2_numberOf_5
set_option maxRecDepth 100000 in
theorem tc_X2_numberOf_3 : tchk2 zty 43 zprog zsm zhts [] 0 ze_X2_numberOf te_X2_numberOf_0 [7] tsp_X2_numberOf 19 tl_X2_numberOf_3 tr_X2_numberOf_3 = true := by decide +kernel
theorem ts_X2_numberOf_3 : tchk zty 43 zprog zsm zhts [] 0 ze_X2_numberOf te_X2_numberOf_0 [7] tsp_X2_numberOf 19 (tl_X2_numberOf_3 ++ tr_X2_numberOf_3) = true := tchk_app tc_X2_numberOf_3 ts_X2_numberOf_4
set_option maxRecDepth 100000 in
theorem tc_X2_numberOf_2 : tchk2 zty 43 zprog zsm zhts [] 0 ze_X2_numberOf te_X2_numberOf_0 [7] tsp_X2_numberOf 19 tl_X2_numberOf_2 tr_X2_numberOf_2 = true := by decide +kernel
theorem ts_X2_numberOf_2 : tchk zty 43 zprog zsm zhts [] 0 ze_X2_numberOf te_X2_numberOf_0 [7] tsp_X2_numberOf 19 (tl_X2_numberOf_2 ++ tr_X2_numberOf_2) = true := tchk_app tc_X2_numberOf_2 ts_X2_numberOf_3
set_option maxRecDepth 100000 in
theorem tc_X2_numberOf_1 : tchk2 zty 43 zprog zsm zhts [] 0 ze_X2_numberOf te_X2_numberOf_0 [7] tsp_X2_numberOf 19 tl_X2_numberOf_1 tr_X2_numberOf_1 = true := by decide +kernel
theorem ts_X2_numberOf_1 : tchk zty 43 zprog zsm zhts [] 0 ze_X2_numberOf te_X2_numberOf_0 [7] tsp_X2_numberOf 19 (tl_X2_numberOf_1 ++ tr_X2_numberOf_1) = true := tchk_app tc_X2_numberOf_1 ts_X2_numberOf_2
set_option maxRecDepth 100000 in
theorem tc_X2_numberOf_0 : tchk2 zty 43 zprog zsm zhts [] 0 ze_X2_numberOf te_X2_numberOf_0 [7] tsp_X2_numberOf 19 tl_X2_numberOf_0 tr_X2_numberOf_0 = true := by decide +kernel
theorem ts_X2_numberOf_0 : tchk zty 43 zprog zsm zhts [] 0 ze_X2_numberOf te_X2_numberOf_0 [7] tsp_X2_numberOf 19 (tl_X2_numberOf_0 ++ tr_X2_numberOf_0) = true := tchk_app tc_X2_numberOf_0 ts_X2_numberOf_1
theorem tq_X2_numberOf_0 {scr : List zV} {Φ : List Nat → zH → Prop} (hst : tStab zty 43 Φ) : tM zty Φ zprog scr zhts zsm 63 te_X2_numberOf_0 := t_methL (E := ze_X2_numberOf) (D0 := 0) (heads := [7]) (sp := tsp_X2_numberOf) (fuel := 19) (cuts := tr_X2_numberOf_0) hst rfl rfl (by decide +kernel) ts_X2_numberOf_0
