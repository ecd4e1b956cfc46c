def tsp_X3_weigh : Nat → Option (Nat × Int × Int) := fun _ => none
def tl_X3_weigh_6 : List tCut := tfU 31 98 (fun x => (28, [(6, tI x x), (0, tR 3), (1, tR 1), (2, tIf), (3, tI 7 7), (4, tI 128 128), (5, tIf)], 0, 0)) ++ ([(2, [(0, tR 3), (1, tR 1), (2, tIf), (3, tI 8 8), (4, tI 128 128), (5, tIf), (6, tI 128 128)], 0, 0)])
def tr_X3_weigh_6 : List tCut := []
def tl_X3_weigh_5 : List tCut := tfU 48 50 (fun x => (28, [(6, tI x x), (0, tR 3), (1, tR 1), (2, tIf), (3, tI 7 7), (4, tI 128 128), (5, tIf)], 0, 0))
def tr_X3_weigh_5 : List tCut := tl_X3_weigh_6 ++ tr_X3_weigh_6
def tl_X3_weigh_4 : List tCut := tfU 48 2 (fun x => (28, [(6, tI x x), (0, tR 3), (1, tR 1), (2, tIf), (3, tI 7 7), (4, tI 128 128), (5, tIf)], 0, 0))
def tr_X3_weigh_4 : List tCut := tl_X3_weigh_5 ++ tr_X3_weigh_5
def tl_X3_weigh_3 : List tCut := tfU 45 20 (fun x => (28, [(6, tI x x), (0, tR 3), (1, tR 1), (2, tIf), (3, tI 6 6), (4, tI 64 64), (5, tIf)], 0, 0)) ++ ([(2, [(0, tR 3), (1, tR 1), (2, tIf), (3, tI 7 7), (4, tI 64 64), (5, tIf), (6, tI 64 64)], 0, 0), (28, [(0, tR 3), (1, tR 1), (2, tIf), (3, tI 7 7), (4, tI 128 128), (5, tIf), (6, tI 0 0)], 0, 0), (28, [(0, tR 3), (1, tR 1), (2, tIf), (3, tI 7 7), (4, tI 128 128), (5, tIf), (6, tI 1 1)], 0, 0)])
def tr_X3_weigh_3 : List tCut := tl_X3_weigh_4 ++ tr_X3_weigh_4
def tl_X3_weigh_2 : List tCut := tfU 27 6 (fun x => (28, [(6, tI x x), (0, tR 3), (1, tR 1), (2, tIf), (3, tI 5 5), (4, tI 32 32), (5, tIf)], 0, 0)) ++ ([(2, [(0, tR 3), (1, tR 1), (2, tIf), (3, tI 6 6), (4, tI 32 32), (5, tIf), (6, tI 32 32)], 0, 0)] ++ (tfU 20 0 (fun x => (28, [(6, tI x x), (0, tR 3), (1, tR 1), (2, tIf), (3, tI 6 6), (4, tI 64 64), (5, tIf)], 0, 0))))
def tr_X3_weigh_2 : List tCut := tl_X3_weigh_3 ++ tr_X3_weigh_3
def tl_X3_weigh_1 : List tCut := [(2, [(0, tR 3), (1, tR 1), (2, tIf), (3, tI 0 0)], 0, 0), (28, [(0, tR 3), (1, tR 1), (2, tIf), (3, tI 0 0), (4, tI 1 1), (5, tIf), (6, tI 0 0)], 0, 0), (28, [(0, tR 3), (1, tR 1), (2, tIf), (3, tI 0 0), (4, tI 1 1), (5, tIf), (6, tI 1 1)], 0, 0), (2, [(0, tR 3), (1, tR 1), (2, tIf), (3, tI 1 1), (4, tI 1 1), (5, tIf), (6, tI 1 1)], 0, 0)] ++ (tfU 3 0 (fun x => (28, [(6, tI x x), (0, tR 3), (1, tR 1), (2, tIf), (3, tI 1 1), (4, tI 2 2), (5, tIf)], 0, 0)) ++ ([(2, [(0, tR 3), (1, tR 1), (2, tIf), (3, tI 2 2), (4, tI 2 2), (5, tIf), (6, tI 2 2)], 0, 0)] ++ (tfU 5 0 (fun x => (28, [(6, tI x x), (0, tR 3), (1, tR 1), (2, tIf), (3, tI 2 2), (4, tI 4 4), (5, tIf)], 0, 0)) ++ ([(2, [(0, tR 3), (1, tR 1), (2, tIf), (3, tI 3 3), (4, tI 4 4), (5, tIf), (6, tI 4 4)], 0, 0)] ++ (tfU 9 0 (fun x => (28, [(6, tI x x), (0, tR 3), (1, tR 1), (2, tIf), (3, tI 3 3), (4, tI 8 8), (5, tIf)], 0, 0)) ++ ([(2, [(0, tR 3), (1, tR 1), (2, tIf), (3, tI 4 4), (4, tI 8 8), (5, tIf), (6, tI 8 8)], 0, 0)] ++ (tfU 17 0 (fun x => (28, [(6, tI x x), (0, tR 3), (1, tR 1), (2, tIf), (3, tI 4 4), (4, tI 16 16), (5, tIf)], 0, 0)) ++ ([(2, [(0, tR 3), (1, tR 1), (2, tIf), (3, tI 5 5), (4, tI 16 16), (5, tIf), (6, tI 16 16)], 0, 0)] ++ (tfU 6 0 (fun x => (28, [(6, tI x x), (0, tR 3), (1, tR 1), (2, tIf), (3, tI 5 5), (4, tI 32 32), (5, tIf)], 0, 0)))))))))))
def tr_X3_weigh_1 : List tCut := tl_X3_weigh_2 ++ tr_X3_weigh_2
def tl_X3_weigh_0 : List tCut := [(0, tinit 0 te_X3_weigh_0.1, 0, 0)]
def tr_X3_weigh_0 : List tCut := tl_X3_weigh_1 ++ tr_X3_weigh_1
set_option maxRecDepth 100000 in
theorem tc_X3_weigh_6 : tchk2 zty 43 zprog zsm zhts [] 2 ze_X3_weigh te_X3_weigh_0 [2, 28] tsp_X3_weigh 19 tl_X3_weigh_6 tr_X3_weigh_6 = true := by decide +kernel
theorem ts_X3_weigh_6 : tchk zty 43 zprog zsm zhts [] 2 ze_X3_weigh te_X3_weigh_0 [2, 28] tsp_X3_weigh 19 (tl_X3_weigh_6 ++ tr_X3_weigh_6) = true := tchk_app tc_X3_weigh_6 rfl
set_option maxRecDepth 100000 in
theorem tc_X3_weigh_5 : tchk2 zty 43 zprog zsm zhts [] 2 ze_X3_weigh te_X3_weigh_0 [2, 28] tsp_X3_weigh 19 tl_X3_weigh_5 tr_X3_weigh_5 = true := by decide +kernel
theorem ts_X3_weigh_5 : tchk zty 43 zprog zsm zhts [] 2 ze_X3_weigh te_X3_weigh_0 [2, 28] tsp_X3_weigh 19 (tl_X3_weigh_5 ++ tr_X3_weigh_5) = true := tchk_app tc_X3_weigh_5 ts_X3_weigh_6
set_option maxRecDepth 100000 in
theorem tc_X3_weigh_4 : tchk2 zty 43 zprog zsm zhts [] 2 ze_X3_weigh te_X3_weigh_0 [2, 28] tsp_X3_weigh 19 tl_X3_weigh_4 tr_X3_weigh_4 = true := by decide +kernel
theorem ts_X3_weigh_4 : tchk zty 43 zprog zsm zhts [] 2 ze_X3_weigh te_X3_weigh_0 [2, 28] tsp_X3_weigh 19 (tl_X3_weigh_4 ++ tr_X3_weigh_4) = true := tchk_app tc_X3_weigh_4 ts_X3_weigh_5
set_option maxRecDepth 100000 in
theorem tc_X3_weigh_3 : tchk2 zty 43 zprog zsm zhts [] 2 ze_X3_weigh te_X3_weigh_0 [2, 28] tsp_X3_weigh 19 tl_X3_weigh_3 tr_X3_weigh_3 = true := by decide +kernel
theorem ts_X3_weigh_3 : tchk zty 43 zprog zsm zhts [] 2 ze_X3_weigh te_X3_weigh_0 [2, 28] tsp_X3_weigh 19 (tl_X3_weigh_3 ++ tr_X3_weigh_3) = true := tchk_app tc_X3_weigh_3 ts_X3_weigh_4
set_option maxRecDepth 100000 in
theorem tc_X3_weigh_2 : tchk2 zty 43 zprog zsm zhts [] 2 ze_X3_weigh te_X3_weigh_0 [2, 28] tsp_X3_weigh 19 tl_X3_weigh_2 tr_X3_weigh_2 = true := by decide +kernel
theorem ts_X3_weigh_2 : tchk zty 43 zprog zsm zhts [] 2 ze_X3_weigh te_X3_weigh_0 [2, 28] tsp_X3_weigh 19 (tl_X3_weigh_2 ++ tr_X3_weigh_2) = true := tchk_app tc_X3_weigh_2 ts_X3_weigh_3
set_option maxRecDepth 100000 in
theorem tc_X3_weigh_1 : tchk2 zty 43 zprog zsm zhts [] 2 ze_X3_weigh te_X3_weigh_0 [2, 28] tsp_X3_weigh 19 tl_X3_weigh_1 tr_X3_weigh_1 = true := by decide +kernel
theorem ts_X3_weigh_1 : tchk zty 43 zprog zsm zhts [] 2 ze_X3_weigh te_X3_weigh_0 [2, 28] tsp_X3_weigh 19 (tl_X3_weigh_1 ++ tr_X3_weigh_1) = true := tchk_app tc_X3_weigh_1 ts_X3_weigh_2
set_option maxRecDepth 100000 in
theorem tc_X3_weigh_0 : tchk2 zty 43 zprog zsm zhts [] 2 ze_X3_weigh te_X3_weigh_0 [2, 28] tsp_X3_weigh 19 tl_X3_weigh_0 tr_X3_weigh_0 = true := by decide +kernel
theorem ts_X3_weigh_0 : tchk zty 43 zprog zsm zhts [] 2 ze_X3_weigh te_X3_weigh_0 [2, 28] tsp_X3_weigh 19 (tl_X3_weigh_0 ++ tr_X3_weigh_0) = true := tchk_app tc_X3_weigh_0 ts_X3_weigh_1
theorem tq_X3_weigh_0 {scr : List zV} {Φ : List Nat → zH → Prop} (hst : tStab zty 43 Φ) : tM zty Φ zprog scr zhts zsm 88 te_X3_weigh_0 := t_methL (E := ze_X3_weigh) (D0 := 2) (heads := [2, 28]) (sp := tsp_X3_weigh) (fuel := 19) (cuts := tr_X3_weigh_0) hst rfl rfl (by decide +kernel) ts_X3_weigh_0
