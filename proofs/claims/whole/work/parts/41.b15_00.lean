def tsp_X3_fill : Nat → Option (Nat × Int × Int) := fun pc => if pc = 22 then some (6, 0, 126) else none
def tl_X3_fill_3 : List tCut := tfD 32 30 (fun x => (22, [(6, tI x x), (0, tR 3), (1, tR 1), (2, tIf), (3, tI 0 127), (4, tIf), (5, tI 0 127)], 0, 0))
def tr_X3_fill_3 : List tCut := []
def tl_X3_fill_2 : List tCut := tfD 48 78 (fun x => (22, [(6, tI x x), (0, tR 3), (1, tR 1), (2, tIf), (3, tI 0 127), (4, tIf), (5, tI 0 127)], 0, 0))
def tr_X3_fill_2 : List tCut := tl_X3_fill_3 ++ tr_X3_fill_3
def tl_X3_fill_1 : List tCut := tfD 48 126 (fun x => (22, [(6, tI x x), (0, tR 3), (1, tR 1), (2, tIf), (3, tI 0 127), (4, tIf), (5, tI 0 127)], 0, 0))
def tr_X3_fill_1 : List tCut := tl_X3_fill_2 ++ tr_X3_fill_2
def tl_X3_fill_0 : List tCut := [(0, tinit 0 te_X3_fill_0.1, 0, 0)]
def tr_X3_fill_0 : List tCut := tl_X3_fill_1 ++ tr_X3_fill_1
set_option maxRecDepth 100000 in
theorem tc_X3_fill_3 : tchk2 zty 43 zprog zsm zhts [] 5 ze_X3_fill te_X3_fill_0 [22] tsp_X3_fill 22 tl_X3_fill_3 tr_X3_fill_3 = true := by decide +kernel
theorem ts_X3_fill_3 : tchk zty 43 zprog zsm zhts [] 5 ze_X3_fill te_X3_fill_0 [22] tsp_X3_fill 22 (tl_X3_fill_3 ++ tr_X3_fill_3) = true := tchk_app tc_X3_fill_3 rfl
set_option maxRecDepth 100000 in
theorem tc_X3_fill_2 : tchk2 zty 43 zprog zsm zhts [] 5 ze_X3_fill te_X3_fill_0 [22] tsp_X3_fill 22 tl_X3_fill_2 tr_X3_fill_2 = true := by decide +kernel
theorem ts_X3_fill_2 : tchk zty 43 zprog zsm zhts [] 5 ze_X3_fill te_X3_fill_0 [22] tsp_X3_fill 22 (tl_X3_fill_2 ++ tr_X3_fill_2) = true := tchk_app tc_X3_fill_2 ts_X3_fill_3
set_option maxRecDepth 100000 in
theorem tc_X3_fill_1 : tchk2 zty 43 zprog zsm zhts [] 5 ze_X3_fill te_X3_fill_0 [22] tsp_X3_fill 22 tl_X3_fill_1 tr_X3_fill_1 = true := by decide +kernel
theorem ts_X3_fill_1 : tchk zty 43 zprog zsm zhts [] 5 ze_X3_fill te_X3_fill_0 [22] tsp_X3_fill 22 (tl_X3_fill_1 ++ tr_X3_fill_1) = true := tchk_app tc_X3_fill_1 ts_X3_fill_2
set_option maxRecDepth 100000 in
theorem tc_X3_fill_0 : tchk2 zty 43 zprog zsm zhts [] 5 ze_X3_fill te_X3_fill_0 [22] tsp_X3_fill 22 tl_X3_fill_0 tr_X3_fill_0 = true := by decide +kernel
theorem ts_X3_fill_0 : tchk zty 43 zprog zsm zhts [] 5 ze_X3_fill te_X3_fill_0 [22] tsp_X3_fill 22 (tl_X3_fill_0 ++ tr_X3_fill_0) = true := tchk_app tc_X3_fill_0 ts_X3_fill_1
theorem tq_X3_fill_0 {scr : List zV} {Φ : List Nat → zH → Prop} (hst : tStab zty 43 Φ) : tM zty Φ zprog scr zhts zsm 77 te_X3_fill_0 := t_methL (E := ze_X3_fill) (D0 := 5) (heads := [22]) (sp := tsp_X3_fill) (fuel := 22) (cuts := tr_X3_fill_0) hst rfl rfl (by decide +kernel) ts_X3_fill_0
