theorem zk_X1_slipByDraw : zOkC zprog zst zTG zTN ze_X1_slipByDraw := zOkC_of (by decide +kernel) [679, 888, 89, 893] (by decide +kernel) (by decide +kernel) [] (by decide +kernel) (by decide +kernel)
theorem zs_X1_slipByDraw : zmside ze_X1_slipByDraw = true := by decide +kernel
set_option maxRecDepth 100000 in
theorem zm_X1_slipByDraw : ∀ w ∈ zmwords ze_X1_slipByDraw, w ∈ zTG := zmw_of 887 rfl [885, 886, 54] (by decide +kernel) (by decide +kernel)
theorem zk_X1_slipsToSink : zOkC zprog zst zTG zTN ze_X1_slipsToSink := zOkC_of (by decide +kernel) [386, 89, 379] (by decide +kernel) (by decide +kernel) [] (by decide +kernel) (by decide +kernel)
theorem zs_X1_slipsToSink : zmside ze_X1_slipsToSink = true := by decide +kernel
set_option maxRecDepth 100000 in
theorem zm_X1_slipsToSink : ∀ w ∈ zmwords ze_X1_slipsToSink, w ∈ zTG := zmw_of 385 rfl [383, 384, 54] (by decide +kernel) (by decide +kernel)
theorem zk_X1_standing : zOkC zprog zst zTG zTN ze_X1_standing := zOkC_of (by decide +kernel) [366] (by decide +kernel) (by decide +kernel) [] (by decide +kernel) (by decide +kernel)
theorem zs_X1_standing : zmside ze_X1_standing = true := by decide +kernel
set_option maxRecDepth 100000 in
theorem zm_X1_standing : ∀ w ∈ zmwords ze_X1_standing, w ∈ zTG := zmw_of 365 rfl [363, 364, 54] (by decide +kernel) (by decide +kernel)
theorem zk_X1_stands : zOkC zprog zst zTG zTN ze_X1_stands := zOkC_of (by decide +kernel) [356, 122] (by decide +kernel) (by decide +kernel) [] (by decide +kernel) (by decide +kernel)
theorem zs_X1_stands : zmside ze_X1_stands = true := by decide +kernel
set_option maxRecDepth 100000 in
theorem zm_X1_stands : ∀ w ∈ zmwords ze_X1_stands, w ∈ zTG := zmw_of 355 rfl [353, 354, 54] (by decide +kernel) (by decide +kernel)
theorem zk_X1_takeOut : zOkC zprog zst zTG zTN ze_X1_takeOut := zOkC_of (by decide +kernel) [109, 616, 109] (by decide +kernel) (by decide +kernel) [] (by decide +kernel) (by decide +kernel)
theorem zs_X1_takeOut : zmside ze_X1_takeOut = true := by decide +kernel
set_option maxRecDepth 100000 in
theorem zm_X1_takeOut : ∀ w ∈ zmwords ze_X1_takeOut, w ∈ zTG := zmw_of 615 rfl [613, 614, 54] (by decide +kernel) (by decide +kernel)
theorem zk_X1_takingsAt : zOkC zprog zst zTG zTN ze_X1_takingsAt := zOkC_of (by decide +kernel) [386, 124, 776, 127, 777] (by decide +kernel) (by decide +kernel) [] (by decide +kernel) (by decide +kernel)
theorem zs_X1_takingsAt : zmside ze_X1_takingsAt = true := by decide +kernel
set_option maxRecDepth 100000 in
theorem zm_X1_takingsAt : ∀ w ∈ zmwords ze_X1_takingsAt, w ∈ zTG := zmw_of 775 rfl [773, 774, 54] (by decide +kernel) (by decide +kernel)
theorem zk_X1_thingOn : zOkC zprog zst zTG zTN ze_X1_thingOn := zOkC_of (by decide +kernel) [110, 116] (by decide +kernel) (by decide +kernel) [] (by decide +kernel) (by decide +kernel)
theorem zs_X1_thingOn : zmside ze_X1_thingOn = true := by decide +kernel
set_option maxRecDepth 100000 in
theorem zm_X1_thingOn : ∀ w ∈ zmwords ze_X1_thingOn, w ∈ zTG := zmw_of 444 rfl [442, 443, 54] (by decide +kernel) (by decide +kernel)
theorem zk_X1_thingsOwnedBy : zOkC zprog zst zTG zTN ze_X1_thingsOwnedBy := zOkC_of (by decide +kernel) [110, 122] (by decide +kernel) (by decide +kernel) [] (by decide +kernel) (by decide +kernel)
theorem zs_X1_thingsOwnedBy : zmside ze_X1_thingsOwnedBy = true := by decide +kernel
set_option maxRecDepth 100000 in
theorem zm_X1_thingsOwnedBy : ∀ w ∈ zmwords ze_X1_thingsOwnedBy, w ∈ zTG := zmw_of 369 rfl [367, 368, 54] (by decide +kernel) (by decide +kernel)
theorem zk_X1_thingsReady : zOkC zprog zst zTG zTN ze_X1_thingsReady := zOkC_of (by decide +kernel) [89, 110, 114, 118, 114] (by decide +kernel) (by decide +kernel) [374, 374] (by decide +kernel) (by decide +kernel)
theorem zs_X1_thingsReady : zmside ze_X1_thingsReady = true := by decide +kernel
set_option maxRecDepth 100000 in
theorem zm_X1_thingsReady : ∀ w ∈ zmwords ze_X1_thingsReady, w ∈ zTG := zmw_of 646 rfl [644, 645, 54] (by decide +kernel) (by decide +kernel)
theorem zk_X1_thingsUnder : zOkC zprog zst zTG zTN ze_X1_thingsUnder := zOkC_of (by decide +kernel) [110, 114] (by decide +kernel) (by decide +kernel) [374] (by decide +kernel) (by decide +kernel)
theorem zs_X1_thingsUnder : zmside ze_X1_thingsUnder = true := by decide +kernel
set_option maxRecDepth 100000 in
theorem zm_X1_thingsUnder : ∀ w ∈ zmwords ze_X1_thingsUnder, w ∈ zTG := zmw_of 373 rfl [371, 372, 54] (by decide +kernel) (by decide +kernel)
theorem zk_X1_wonBySlip : zOkC zprog zst zTG zTN ze_X1_wonBySlip := zOkC_of (by decide +kernel) [441, 642, 114, 670] (by decide +kernel) (by decide +kernel) [] (by decide +kernel) (by decide +kernel)
theorem zs_X1_wonBySlip : zmside ze_X1_wonBySlip = true := by decide +kernel
set_option maxRecDepth 100000 in
theorem zm_X1_wonBySlip : ∀ w ∈ zmwords ze_X1_wonBySlip, w ∈ zTG := zmw_of 669 rfl [667, 668, 54] (by decide +kernel) (by decide +kernel)
theorem zk_X1_worthOfGo : zOkC zprog zst zTG zTN ze_X1_worthOfGo := zOkC_of (by decide +kernel) [679, 362, 102, 386, 643, 110, 116, 680, 681] (by decide +kernel) (by decide +kernel) [] (by decide +kernel) (by decide +kernel)
theorem zs_X1_worthOfGo : zmside ze_X1_worthOfGo = true := by decide +kernel
set_option maxRecDepth 100000 in
theorem zm_X1_worthOfGo : ∀ w ∈ zmwords ze_X1_worthOfGo, w ∈ zTG := zmw_of 678 rfl [676, 677, 54] (by decide +kernel) (by decide +kernel)
theorem zk_X2_init : zOkC zprog zst zTG zTN ze_X2_init := zOkC_of (by decide +kernel) [199, 165, 200, 202, 204, 205, 206, 207] (by decide +kernel) (by decide +kernel) [] (by decide +kernel) (by decide +kernel)
theorem zs_X2_init : zmside ze_X2_init = true := by decide +kernel
set_option maxRecDepth 100000 in
theorem zm_X2_init : ∀ w ∈ zmwords ze_X2_init, w ∈ zTG := zmw_of 198 rfl [197, 56] (by decide +kernel) (by decide +kernel)
theorem zk_X2_numberOf : zOkC zprog zst zTG zTN ze_X2_numberOf := zOkC_of (by decide +kernel) [205, 206, 200] (by decide +kernel) (by decide +kernel) [] (by decide +kernel) (by decide +kernel)
theorem zs_X2_numberOf : zmside ze_X2_numberOf = true := by decide +kernel
set_option maxRecDepth 100000 in
theorem zm_X2_numberOf : ∀ w ∈ zmwords ze_X2_numberOf, w ∈ zTG := zmw_of 505 rfl [503, 504, 56] (by decide +kernel) (by decide +kernel)
theorem zk_X2_readBuyer : zOkC zprog zst zTG zTN ze_X2_readBuyer := zOkC_of (by decide +kernel) [125, 567, 207, 597, 492] (by decide +kernel) (by decide +kernel) [] (by decide +kernel) (by decide +kernel)
theorem zs_X2_readBuyer : zmside ze_X2_readBuyer = true := by decide +kernel
set_option maxRecDepth 100000 in
theorem zm_X2_readBuyer : ∀ w ∈ zmwords ze_X2_readBuyer, w ∈ zTG := zmw_of 596 rfl [594, 595, 56] (by decide +kernel) (by decide +kernel)
theorem zk_X2_readInto : zOkC zprog zst zTG zTN ze_X2_readInto := zOkC_of (by decide +kernel) [206, 492, 506, 205, 204, 204, 205, 492, 205] (by decide +kernel) (by decide +kernel) [] (by decide +kernel) (by decide +kernel)
theorem zs_X2_readInto : zmside ze_X2_readInto = true := by decide +kernel
set_option maxRecDepth 100000 in
theorem zm_X2_readInto : ∀ w ∈ zmwords ze_X2_readInto, w ∈ zTG := zmw_of 491 rfl [489, 490, 56] (by decide +kernel) (by decide +kernel)
theorem zk_X2_readLiking : zOkC zprog zst zTG zTN ze_X2_readLiking := zOkC_of (by decide +kernel) [125, 567, 207, 111, 567, 207, 567, 207, 603, 492] (by decide +kernel) (by decide +kernel) [] (by decide +kernel) (by decide +kernel)
theorem zs_X2_readLiking : zmside ze_X2_readLiking = true := by decide +kernel
set_option maxRecDepth 100000 in
theorem zm_X2_readLiking : ∀ w ∈ zmwords ze_X2_readLiking, w ∈ zTG := zmw_of 602 rfl [600, 601, 56] (by decide +kernel) (by decide +kernel)
theorem zk_X2_readNumber : zOkC zprog zst zTG zTN ze_X2_readNumber := zOkC_of (by decide +kernel) [492, 204, 207, 207] (by decide +kernel) (by decide +kernel) [571] (by decide +kernel) (by decide +kernel)
theorem zs_X2_readNumber : zmside ze_X2_readNumber = true := by decide +kernel
set_option maxRecDepth 100000 in
theorem zm_X2_readNumber : ∀ w ∈ zmwords ze_X2_readNumber, w ∈ zTG := zmw_of 570 rfl [568, 569, 56] (by decide +kernel) (by decide +kernel)
theorem zk_X2_readOut : zOkC zprog zst zTG zTN ze_X2_readOut := zOkC_of (by decide +kernel) [90, 567, 207, 609, 207, 610, 611, 207, 612, 492] (by decide +kernel) (by decide +kernel) [] (by decide +kernel) (by decide +kernel)
theorem zs_X2_readOut : zmside ze_X2_readOut = true := by decide +kernel
set_option maxRecDepth 100000 in
theorem zm_X2_readOut : ∀ w ∈ zmwords ze_X2_readOut, w ∈ zTG := zmw_of 608 rfl [606, 607, 56] (by decide +kernel) (by decide +kernel)
theorem zk_X2_readPrices : zOkC zprog zst zTG zTN ze_X2_readPrices := zOkC_of (by decide +kernel) [567, 207, 97, 492, 511, 567, 207, 100, 492] (by decide +kernel) (by decide +kernel) [] (by decide +kernel) (by decide +kernel)
theorem zs_X2_readPrices : zmside ze_X2_readPrices = true := by decide +kernel
set_option maxRecDepth 100000 in
theorem zm_X2_readPrices : ∀ w ∈ zmwords ze_X2_readPrices, w ∈ zTG := zmw_of 582 rfl [580, 581, 56] (by decide +kernel) (by decide +kernel)
theorem zk_X2_readRule : zOkC zprog zst zTG zTN ze_X2_readRule := zOkC_of (by decide +kernel) [111, 567, 207, 93, 492] (by decide +kernel) (by decide +kernel) [] (by decide +kernel) (by decide +kernel)
theorem zs_X2_readRule : zmside ze_X2_readRule = true := by decide +kernel
set_option maxRecDepth 100000 in
theorem zm_X2_readRule : ∀ w ∈ zmwords ze_X2_readRule, w ∈ zTG := zmw_of 577 rfl [575, 576, 56] (by decide +kernel) (by decide +kernel)
theorem zk_X2_readSlips : zOkC zprog zst zTG zTN ze_X2_readSlips := zOkC_of (by decide +kernel) [111, 567, 207, 572, 492] (by decide +kernel) (by decide +kernel) [] (by decide +kernel) (by decide +kernel)
theorem zs_X2_readSlips : zmside ze_X2_readSlips = true := by decide +kernel
set_option maxRecDepth 100000 in
theorem zm_X2_readSlips : ∀ w ∈ zmwords ze_X2_readSlips, w ∈ zTG := zmw_of 566 rfl [564, 565, 56] (by decide +kernel) (by decide +kernel)
theorem zk_X2_readStatement : zOkC zprog zst zTG zTN ze_X2_readStatement := zOkC_of (by decide +kernel) [511, 563, 511, 574, 511, 579, 511, 585, 511, 593, 511, 599, 511, 605] (by decide +kernel) (by decide +kernel) [] (by decide +kernel) (by decide +kernel)
theorem zs_X2_readStatement : zmside ze_X2_readStatement = true := by decide +kernel
set_option maxRecDepth 100000 in
theorem zm_X2_readStatement : ∀ w ∈ zmwords ze_X2_readStatement, w ∈ zTG := zmw_of 509 rfl [507, 508, 56] (by decide +kernel) (by decide +kernel)
theorem zk_X2_readThing : zOkC zprog zst zTG zTN ze_X2_readThing := zOkC_of (by decide +kernel) [111, 567, 207, 90, 567, 207, 589, 207, 590, 207, 567, 207, 591, 492] (by decide +kernel) (by decide +kernel) [] (by decide +kernel) (by decide +kernel)
theorem zs_X2_readThing : zmside ze_X2_readThing = true := by decide +kernel
set_option maxRecDepth 100000 in
theorem zm_X2_readThing : ∀ w ∈ zmwords ze_X2_readThing, w ∈ zTG := zmw_of 588 rfl [586, 587, 56] (by decide +kernel) (by decide +kernel)
theorem zk_X2_sortOf : zOkC zprog zst zTG zTN ze_X2_sortOf := zOkC_of (by decide +kernel) [] (by decide +kernel) (by decide +kernel) [] (by decide +kernel) (by decide +kernel)
theorem zs_X2_sortOf : zmside ze_X2_sortOf = true := by decide +kernel
set_option maxRecDepth 100000 in
theorem zm_X2_sortOf : ∀ w ∈ zmwords ze_X2_sortOf, w ∈ zTG := zmw_of 498 rfl [497, 56] (by decide +kernel) (by decide +kernel)
theorem zk_X2_step : zOkC zprog zst zTG zTN ze_X2_step := zOkC_of (by decide +kernel) [206, 205, 205, 202, 200, 205, 496, 205, 205, 205, 202, 499, 206, 205, 202, 200, 205, 496, 204, 204, 204, 206, 202, 200, 206, 496, 204, 206, 206, 204, 206, 205, 502, 207] (by decide +kernel) (by decide +kernel) [] (by decide +kernel) (by decide +kernel)
theorem zs_X2_step : zmside ze_X2_step = true := by decide +kernel
set_option maxRecDepth 100000 in
theorem zm_X2_step : ∀ w ∈ zmwords ze_X2_step, w ∈ zTG := zmw_of 495 rfl [493, 494, 56] (by decide +kernel) (by decide +kernel)
theorem zk_X3_fewestGoes : zOkC zprog zst zTG zTN ze_X3_fewestGoes := zOkC_of (by decide +kernel) [695, 854, 176, 726, 690, 103, 706, 855] (by decide +kernel) (by decide +kernel) [] (by decide +kernel) (by decide +kernel)
theorem zs_X3_fewestGoes : zmside ze_X3_fewestGoes = true := by decide +kernel
set_option maxRecDepth 100000 in
theorem zm_X3_fewestGoes : ∀ w ∈ zmwords ze_X3_fewestGoes, w ∈ zTG := zmw_of 853 rfl [851, 852, 55] (by decide +kernel) (by decide +kernel)
theorem zk_X3_fill : zOkC zprog zst zTG zTN ze_X3_fill := zOkC_of (by decide +kernel) [695, 701, 690, 103, 706, 707] (by decide +kernel) (by decide +kernel) [] (by decide +kernel) (by decide +kernel)
theorem zs_X3_fill : zmside ze_X3_fill = true := by decide +kernel
set_option maxRecDepth 100000 in
theorem zm_X3_fill : ∀ w ∈ zmwords ze_X3_fill, w ∈ zTG := zmw_of 694 rfl [692, 693, 55] (by decide +kernel) (by decide +kernel)
theorem zk_X3_fillLayer : zOkC zprog zst zTG zTN ze_X3_fillLayer := zOkC_of (by decide +kernel) [176, 711, 712, 176, 172, 713, 172, 726] (by decide +kernel) (by decide +kernel) [] (by decide +kernel) (by decide +kernel)
theorem zs_X3_fillLayer : zmside ze_X3_fillLayer = true := by decide +kernel
set_option maxRecDepth 100000 in
theorem zm_X3_fillLayer : ∀ w ∈ zmwords ze_X3_fillLayer, w ∈ zTG := zmw_of 710 rfl [708, 709, 55] (by decide +kernel) (by decide +kernel)
theorem zk_X3_hasState : zOkC zprog zst zTG zTN ze_X3_hasState := zOkC_of (by decide +kernel) [717] (by decide +kernel) (by decide +kernel) [720] (by decide +kernel) (by decide +kernel)
theorem zs_X3_hasState : zmside ze_X3_hasState = true := by decide +kernel
set_option maxRecDepth 100000 in
theorem zm_X3_hasState : ∀ w ∈ zmwords ze_X3_hasState, w ∈ zTG := zmw_of 732 rfl [731, 55] (by decide +kernel) (by decide +kernel)
theorem zk_X3_init : zOkC zprog zst zTG zTN ze_X3_init := zOkC_of (by decide +kernel) [171, 165, 172, 165, 173, 165, 174, 175, 176, 177, 178] (by decide +kernel) (by decide +kernel) [] (by decide +kernel) (by decide +kernel)
theorem zs_X3_init : zmside ze_X3_init = true := by decide +kernel
set_option maxRecDepth 100000 in
theorem zm_X3_init : ∀ w ∈ zmwords ze_X3_init, w ∈ zTG := zmw_of 170 rfl [169, 55] (by decide +kernel) (by decide +kernel)
theorem zk_X3_lookAt : zOkC zprog zst zTG zTN ze_X3_lookAt := zOkC_of (by decide +kernel) [112, 175, 699, 176, 700, 177, 700, 178, 172, 172, 173, 173] (by decide +kernel) (by decide +kernel) [] (by decide +kernel) (by decide +kernel)
theorem zs_X3_lookAt : zmside ze_X3_lookAt = true := by decide +kernel
set_option maxRecDepth 100000 in
theorem zm_X3_lookAt : ∀ w ∈ zmwords ze_X3_lookAt, w ∈ zTG := zmw_of 698 rfl [696, 697, 55] (by decide +kernel) (by decide +kernel)
theorem zk_X3_mark : zOkC zprog zst zTG zTN ze_X3_mark := zOkC_of (by decide +kernel) [730, 173] (by decide +kernel) (by decide +kernel) [] (by decide +kernel) (by decide +kernel)
theorem zs_X3_mark : zmside ze_X3_mark = true := by decide +kernel
set_option maxRecDepth 100000 in
theorem zm_X3_mark : ∀ w ∈ zmwords ze_X3_mark, w ∈ zTG := zmw_of 729 rfl [727, 728, 55] (by decide +kernel) (by decide +kernel)
theorem zk_X3_markNext : zOkC zprog zst zTG zTN ze_X3_markNext := zOkC_of (by decide +kernel) [176, 859, 712, 726, 175, 721, 726] (by decide +kernel) (by decide +kernel) [] (by decide +kernel) (by decide +kernel)
theorem zs_X3_markNext : zmside ze_X3_markNext = true := by decide +kernel
set_option maxRecDepth 100000 in
theorem zm_X3_markNext : ∀ w ∈ zmwords ze_X3_markNext, w ∈ zTG := zmw_of 858 rfl [856, 857, 55] (by decide +kernel) (by decide +kernel)
theorem zk_X3_thinkOfAll : zOkC zprog zst zTG zTN ze_X3_thinkOfAll := zOkC_of (by decide +kernel) [690, 96, 691] (by decide +kernel) (by decide +kernel) [] (by decide +kernel) (by decide +kernel)
theorem zs_X3_thinkOfAll : zmside ze_X3_thinkOfAll = true := by decide +kernel
set_option maxRecDepth 100000 in
theorem zm_X3_thinkOfAll : ∀ w ∈ zmwords ze_X3_thinkOfAll, w ∈ zTG := zmw_of 689 rfl [687, 688, 55] (by decide +kernel) (by decide +kernel)
theorem zk_X3_thinkOfGoes : zOkC zprog zst zTG zTN ze_X3_thinkOfGoes := zOkC_of (by decide +kernel) [690, 711, 691] (by decide +kernel) (by decide +kernel) [] (by decide +kernel) (by decide +kernel)
theorem zs_X3_thinkOfGoes : zmside ze_X3_thinkOfGoes = true := by decide +kernel
set_option maxRecDepth 100000 in
theorem zm_X3_thinkOfGoes : ∀ w ∈ zmwords ze_X3_thinkOfGoes, w ∈ zTG := zmw_of 759 rfl [757, 758, 55] (by decide +kernel) (by decide +kernel)
theorem zk_X3_valueNow : zOkC zprog zst zTG zTN ze_X3_valueNow := zOkC_of (by decide +kernel) [176, 717, 172, 176] (by decide +kernel) (by decide +kernel) [] (by decide +kernel) (by decide +kernel)
theorem zs_X3_valueNow : zmside ze_X3_valueNow = true := by decide +kernel
set_option maxRecDepth 100000 in
theorem zm_X3_valueNow : ∀ w ∈ zmwords ze_X3_valueNow, w ∈ zTG := zmw_of 736 rfl [734, 735, 55] (by decide +kernel) (by decide +kernel)
theorem zk_X3_valueOf : zOkC zprog zst zTG zTN ze_X3_valueOf := zOkC_of (by decide +kernel) [712, 717, 172, 175, 721, 174, 172, 725] (by decide +kernel) (by decide +kernel) [] (by decide +kernel) (by decide +kernel)
theorem zs_X3_valueOf : zmside ze_X3_valueOf = true := by decide +kernel
set_option maxRecDepth 100000 in
theorem zm_X3_valueOf : ∀ w ∈ zmwords ze_X3_valueOf, w ∈ zTG := zmw_of 716 rfl [714, 715, 55] (by decide +kernel) (by decide +kernel)
theorem zk_X3_weigh : zOkC zprog zst zTG zTN ze_X3_weigh := zOkC_of (by decide +kernel) [705, 174, 174] (by decide +kernel) (by decide +kernel) [] (by decide +kernel) (by decide +kernel)
theorem zs_X3_weigh : zmside ze_X3_weigh = true := by decide +kernel
set_option maxRecDepth 100000 in
theorem zm_X3_weigh : ∀ w ∈ zmwords ze_X3_weigh, w ∈ zTG := zmw_of 704 rfl [702, 703, 55] (by decide +kernel) (by decide +kernel)
theorem zk_X3_wonWith : zOkC zprog zst zTG zTN ze_X3_wonWith := zOkC_of (by decide +kernel) [177, 178] (by decide +kernel) (by decide +kernel) [] (by decide +kernel) (by decide +kernel)
theorem zs_X3_wonWith : zmside ze_X3_wonWith = true := by decide +kernel
set_option maxRecDepth 100000 in
theorem zm_X3_wonWith : ∀ w ∈ zmwords ze_X3_wonWith, w ∈ zTG := zmw_of 724 rfl [722, 723, 55] (by decide +kernel) (by decide +kernel)
theorem zk_X4_all : zOkC zprog zst zTG zTN ze_X4_all := zOkC_of (by decide +kernel) [242, 461, 751, 277, 242, 242, 631, 627, 242, 98, 242, 741] (by decide +kernel) (by decide +kernel) [] (by decide +kernel) (by decide +kernel)
theorem zs_X4_all : zmside ze_X4_all = true := by decide +kernel
set_option maxRecDepth 100000 in
theorem zm_X4_all : ∀ w ∈ zmwords ze_X4_all, w ∈ zTG := zmw_of 767 rfl [765, 766, 53] (by decide +kernel) (by decide +kernel)
theorem zk_X4_asNumber : zOkC zprog zst zTG zTN ze_X4_asNumber := zOkC_of (by decide +kernel) [] (by decide +kernel) (by decide +kernel) [] (by decide +kernel) (by decide +kernel)
theorem zs_X4_asNumber : zmside ze_X4_asNumber = true := by decide +kernel
set_option maxRecDepth 100000 in
theorem zm_X4_asNumber : ∀ w ∈ zmwords ze_X4_asNumber, w ∈ zTG := zmw_of 308 rfl [307, 53] (by decide +kernel) (by decide +kernel)
theorem zk_X4_atOnce : zOkC zprog zst zTG zTN ze_X4_atOnce := zOkC_of (by decide +kernel) [242, 461, 751, 277, 752, 242, 101] (by decide +kernel) (by decide +kernel) [] (by decide +kernel) (by decide +kernel)
theorem zs_X4_atOnce : zmside ze_X4_atOnce = true := by decide +kernel
set_option maxRecDepth 100000 in
theorem zm_X4_atOnce : ∀ w ∈ zmwords ze_X4_atOnce, w ∈ zTG := zmw_of 750 rfl [748, 749, 53] (by decide +kernel) (by decide +kernel)
theorem zk_X4_back : zOkC zprog zst zTG zTN ze_X4_back := zOkC_of (by decide +kernel) [249, 277, 242, 243, 483, 247, 229, 242, 113, 247, 229] (by decide +kernel) (by decide +kernel) [] (by decide +kernel) (by decide +kernel)
theorem zs_X4_back : zmside ze_X4_back = true := by decide +kernel
set_option maxRecDepth 100000 in
theorem zm_X4_back : ∀ w ∈ zmwords ze_X4_back, w ∈ zTG := zmw_of 921 rfl [919, 920, 53] (by decide +kernel) (by decide +kernel)
theorem zk_X4_bestPrice : zOkC zprog zst zTG zTN ze_X4_bestPrice := zOkC_of (by decide +kernel) [242, 772, 242, 772] (by decide +kernel) (by decide +kernel) [] (by decide +kernel) (by decide +kernel)
theorem zs_X4_bestPrice : zmside ze_X4_bestPrice = true := by decide +kernel
set_option maxRecDepth 100000 in
theorem zm_X4_bestPrice : ∀ w ∈ zmwords ze_X4_bestPrice, w ∈ zTG := zmw_of 781 rfl [779, 780, 53] (by decide +kernel) (by decide +kernel)
theorem zk_X4_booked : zOkC zprog zst zTG zTN ze_X4_booked := zOkC_of (by decide +kernel) [242, 461, 277, 815, 277, 242, 98, 242, 128, 819, 277, 242, 631, 244, 631, 244, 842, 242, 244, 483] (by decide +kernel) (by decide +kernel) [] (by decide +kernel) (by decide +kernel)
theorem zs_X4_booked : zmside ze_X4_booked = true := by decide +kernel
set_option maxRecDepth 100000 in
theorem zm_X4_booked : ∀ w ∈ zmwords ze_X4_booked, w ∈ zTG := zmw_of 841 rfl [839, 840, 53] (by decide +kernel) (by decide +kernel)
theorem zk_X4_buyer : zOkC zprog zst zTG zTN ze_X4_buyer := zOkC_of (by decide +kernel) [274, 277, 242, 126, 277, 242, 453] (by decide +kernel) (by decide +kernel) [] (by decide +kernel) (by decide +kernel)
theorem zs_X4_buyer : zmside ze_X4_buyer = true := by decide +kernel
set_option maxRecDepth 100000 in
theorem zm_X4_buyer : ∀ w ∈ zmwords ze_X4_buyer, w ∈ zTG := zmw_of 452 rfl [450, 451, 53] (by decide +kernel) (by decide +kernel)
theorem zk_X4_buyerOf : zOkC zprog zst zTG zTN ze_X4_buyerOf := zOkC_of (by decide +kernel) [242, 461, 277, 242, 128, 242, 626, 242, 242, 626, 627, 242, 242, 631, 627, 277] (by decide +kernel) (by decide +kernel) [] (by decide +kernel) (by decide +kernel)
theorem zs_X4_buyerOf : zmside ze_X4_buyerOf = true := by decide +kernel
set_option maxRecDepth 100000 in
theorem zm_X4_buyerOf : ∀ w ∈ zmwords ze_X4_buyerOf, w ∈ zTG := zmw_of 625 rfl [623, 624, 53] (by decide +kernel) (by decide +kernel)
theorem zk_X4_chain : zOkC zprog zst zTG zTN ze_X4_chain := zOkC_of (by decide +kernel) [242, 335, 277, 245, 242, 850] (by decide +kernel) (by decide +kernel) [] (by decide +kernel) (by decide +kernel)
theorem zs_X4_chain : zmside ze_X4_chain = true := by decide +kernel
set_option maxRecDepth 100000 in
theorem zm_X4_chain : ∀ w ∈ zmwords ze_X4_chain, w ∈ zTG := zmw_of 849 rfl [847, 848, 53] (by decide +kernel) (by decide +kernel)
theorem zk_X4_copy : zOkC zprog zst zTG zTN ze_X4_copy := zOkC_of (by decide +kernel) [271, 271, 277, 247, 247, 313, 277, 316, 316, 277, 233, 233, 320] (by decide +kernel) (by decide +kernel) [] (by decide +kernel) (by decide +kernel)
theorem zs_X4_copy : zmside ze_X4_copy = true := by decide +kernel
set_option maxRecDepth 100000 in
theorem zm_X4_copy : ∀ w ∈ zmwords ze_X4_copy, w ∈ zTG := zmw_of 312 rfl [310, 311, 53] (by decide +kernel) (by decide +kernel)
