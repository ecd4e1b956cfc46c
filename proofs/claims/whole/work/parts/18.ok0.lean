theorem zk_J13_bitCount_95d88 : zOkC zprog zst zTG zTN ze_J13_bitCount_95d88 := zOkC_of (by decide +kernel) [393, 394, 394, 395] (by decide +kernel) (by decide +kernel) [] (by decide +kernel) (by decide +kernel)
theorem zs_J13_bitCount_95d88 : zmside ze_J13_bitCount_95d88 = true := by decide +kernel
set_option maxRecDepth 100000 in
theorem zm_J13_bitCount_95d88 : ∀ w ∈ zmwords ze_J13_bitCount_95d88, w ∈ zTG := zmw_of 392 rfl [391, 61] (by decide +kernel) (by decide +kernel)
theorem zk_J6_bitCount_0f7a4 : zOkC zprog zst zTG zTN ze_J6_bitCount_0f7a4 := zOkC_of (by decide +kernel) [659, 660, 660, 661] (by decide +kernel) (by decide +kernel) [] (by decide +kernel) (by decide +kernel)
theorem zs_J6_bitCount_0f7a4 : zmside ze_J6_bitCount_0f7a4 = true := by decide +kernel
set_option maxRecDepth 100000 in
theorem zm_J6_bitCount_0f7a4 : ∀ w ∈ zmwords ze_J6_bitCount_0f7a4, w ∈ zTG := zmw_of 658 rfl [657, 66] (by decide +kernel) (by decide +kernel)
theorem zk_X1_isBuyer : zOkC zprog zst zTG zTN ze_X1_isBuyer := zOkC_of (by decide +kernel) [124] (by decide +kernel) (by decide +kernel) [] (by decide +kernel) (by decide +kernel)
theorem zs_X1_isBuyer : zmside ze_X1_isBuyer = true := by decide +kernel
set_option maxRecDepth 100000 in
theorem zm_X1_isBuyer : ∀ w ∈ zmwords ze_X1_isBuyer, w ∈ zTG := zmw_of 407 rfl [405, 406, 54] (by decide +kernel) (by decide +kernel)
theorem zk_X1_isFreeForThing : zOkC zprog zst zTG zTN ze_X1_isFreeForThing := zOkC_of (by decide +kernel) [437, 441] (by decide +kernel) (by decide +kernel) [] (by decide +kernel) (by decide +kernel)
theorem zs_X1_isFreeForThing : zmside ze_X1_isFreeForThing = true := by decide +kernel
set_option maxRecDepth 100000 in
theorem zm_X1_isFreeForThing : ∀ w ∈ zmwords ze_X1_isFreeForThing, w ∈ zTG := zmw_of 436 rfl [434, 435, 54] (by decide +kernel) (by decide +kernel)
theorem zk_X1_isIn : zOkC zprog zst zTG zTN ze_X1_isIn := zOkC_of (by decide +kernel) [109] (by decide +kernel) (by decide +kernel) [] (by decide +kernel) (by decide +kernel)
theorem zs_X1_isIn : zmside ze_X1_isIn = true := by decide +kernel
set_option maxRecDepth 100000 in
theorem zm_X1_isIn : ∀ w ∈ zmwords ze_X1_isIn, w ∈ zTG := zmw_of 440 rfl [438, 439, 54] (by decide +kernel) (by decide +kernel)
theorem zk_X1_isSlip : zOkC zprog zst zTG zTN ze_X1_isSlip := zOkC_of (by decide +kernel) [89] (by decide +kernel) (by decide +kernel) [] (by decide +kernel) (by decide +kernel)
theorem zs_X1_isSlip : zmside ze_X1_isSlip = true := by decide +kernel
set_option maxRecDepth 100000 in
theorem zm_X1_isSlip : ∀ w ∈ zmwords ze_X1_isSlip, w ∈ zTG := zmw_of 428 rfl [426, 427, 54] (by decide +kernel) (by decide +kernel)
theorem zk_X1_isThing : zOkC zprog zst zTG zTN ze_X1_isThing := zOkC_of (by decide +kernel) [110] (by decide +kernel) (by decide +kernel) [] (by decide +kernel) (by decide +kernel)
theorem zs_X1_isThing : zmside ze_X1_isThing = true := by decide +kernel
set_option maxRecDepth 100000 in
theorem zm_X1_isThing : ∀ w ∈ zmwords ze_X1_isThing, w ∈ zTG := zmw_of 338 rfl [336, 337, 54] (by decide +kernel) (by decide +kernel)
theorem zk_X1_isWinner : zOkC zprog zst zTG zTN ze_X1_isWinner := zOkC_of (by decide +kernel) [92, 92] (by decide +kernel) (by decide +kernel) [] (by decide +kernel) (by decide +kernel)
theorem zs_X1_isWinner : zmside ze_X1_isWinner = true := by decide +kernel
set_option maxRecDepth 100000 in
theorem zm_X1_isWinner : ∀ w ∈ zmwords ze_X1_isWinner, w ∈ zTG := zmw_of 432 rfl [430, 431, 54] (by decide +kernel) (by decide +kernel)
theorem zk_X2_isWord : zOkC zprog zst zTG zTN ze_X2_isWord := zOkC_of (by decide +kernel) [515, 204, 206, 205, 200, 205, 525] (by decide +kernel) (by decide +kernel) [] (by decide +kernel) (by decide +kernel)
theorem zs_X2_isWord : zmside ze_X2_isWord = true := by decide +kernel
set_option maxRecDepth 100000 in
theorem zm_X2_isWord : ∀ w ∈ zmwords ze_X2_isWord, w ∈ zTG := zmw_of 514 rfl [512, 513, 56] (by decide +kernel) (by decide +kernel)
theorem zk_X3_isMarked : zOkC zprog zst zTG zTN ze_X3_isMarked := zOkC_of (by decide +kernel) [730, 173] (by decide +kernel) (by decide +kernel) [] (by decide +kernel) (by decide +kernel)
theorem zs_X3_isMarked : zmside ze_X3_isMarked = true := by decide +kernel
set_option maxRecDepth 100000 in
theorem zm_X3_isMarked : ∀ w ∈ zmwords ze_X3_isMarked, w ∈ zTG := zmw_of 746 rfl [744, 745, 55] (by decide +kernel) (by decide +kernel)
theorem zk_X3_isSet : zOkC zprog zst zTG zTN ze_X3_isSet := zOkC_of (by decide +kernel) [] (by decide +kernel) (by decide +kernel) [720] (by decide +kernel) (by decide +kernel)
theorem zs_X3_isSet : zmside ze_X3_isSet = true := by decide +kernel
set_option maxRecDepth 100000 in
theorem zm_X3_isSet : ∀ w ∈ zmwords ze_X3_isSet, w ∈ zTG := zmw_of 719 rfl [718, 55] (by decide +kernel) (by decide +kernel)
theorem zk_X4_isShelf : zOkC zprog zst zTG zTN ze_X4_isShelf := zOkC_of (by decide +kernel) [274] (by decide +kernel) (by decide +kernel) [] (by decide +kernel) (by decide +kernel)
theorem zs_X4_isShelf : zmside ze_X4_isShelf = true := by decide +kernel
set_option maxRecDepth 100000 in
theorem zm_X4_isShelf : ∀ w ∈ zmwords ze_X4_isShelf, w ∈ zTG := zmw_of 273 rfl [272, 53] (by decide +kernel) (by decide +kernel)
theorem zk_X4_isUnder : zOkC zprog zst zTG zTN ze_X4_isUnder := zOkC_of (by decide +kernel) [346] (by decide +kernel) (by decide +kernel) [] (by decide +kernel) (by decide +kernel)
theorem zs_X4_isUnder : zmside ze_X4_isUnder = true := by decide +kernel
set_option maxRecDepth 100000 in
theorem zm_X4_isUnder : ∀ w ∈ zmwords ze_X4_isUnder, w ∈ zTG := zmw_of 345 rfl [344, 53] (by decide +kernel) (by decide +kernel)
theorem zk_X4_isWithin : zOkC zprog zst zTG zTN ze_X4_isWithin := zOkC_of (by decide +kernel) [] (by decide +kernel) (by decide +kernel) [] (by decide +kernel) (by decide +kernel)
theorem zs_X4_isWithin : zmside ze_X4_isWithin = true := by decide +kernel
set_option maxRecDepth 100000 in
theorem zm_X4_isWithin : ∀ w ∈ zmwords ze_X4_isWithin, w ∈ zTG := zmw_of 276 rfl [275, 53] (by decide +kernel) (by decide +kernel)
theorem zk_X5_isBuyer : zOkC zprog zst zTG zTN ze_X5_isBuyer := zOkC_of (by decide +kernel) [963, 1069] (by decide +kernel) (by decide +kernel) [] (by decide +kernel) (by decide +kernel)
theorem zs_X5_isBuyer : zmside ze_X5_isBuyer = true := by decide +kernel
set_option maxRecDepth 100000 in
theorem zm_X5_isBuyer : ∀ w ∈ zmwords ze_X5_isBuyer, w ∈ zTG := zmw_of 1183 rfl [1182, 17, 58] (by decide +kernel) (by decide +kernel)
theorem zk_X5_isDigit : zOkC zprog zst zTG zTN ze_X5_isDigit := zOkC_of (by decide +kernel) [] (by decide +kernel) (by decide +kernel) [] (by decide +kernel) (by decide +kernel)
theorem zs_X5_isDigit : zmside ze_X5_isDigit = true := by decide +kernel
set_option maxRecDepth 100000 in
theorem zm_X5_isDigit : ∀ w ∈ zmwords ze_X5_isDigit, w ∈ zTG := zmw_of 1228 rfl [1227, 58] (by decide +kernel) (by decide +kernel)
theorem zk_X5_isFree : zOkC zprog zst zTG zTN ze_X5_isFree := zOkC_of (by decide +kernel) [958, 958, 960, 958, 949] (by decide +kernel) (by decide +kernel) [] (by decide +kernel) (by decide +kernel)
theorem zs_X5_isFree : zmside ze_X5_isFree = true := by decide +kernel
set_option maxRecDepth 100000 in
theorem zm_X5_isFree : ∀ w ∈ zmwords ze_X5_isFree, w ∈ zTG := zmw_of 1303 rfl [1302, 34, 58] (by decide +kernel) (by decide +kernel)
theorem zk_X5_isLetter : zOkC zprog zst zTG zTN ze_X5_isLetter := zOkC_of (by decide +kernel) [] (by decide +kernel) (by decide +kernel) [] (by decide +kernel) (by decide +kernel)
theorem zs_X5_isLetter : zmside ze_X5_isLetter = true := by decide +kernel
set_option maxRecDepth 100000 in
theorem zm_X5_isLetter : ∀ w ∈ zmwords ze_X5_isLetter, w ∈ zTG := zmw_of 1225 rfl [1224, 58] (by decide +kernel) (by decide +kernel)
theorem zk_X5_isThing : zOkC zprog zst zTG zTN ze_X5_isThing := zOkC_of (by decide +kernel) [957, 1069] (by decide +kernel) (by decide +kernel) [] (by decide +kernel) (by decide +kernel)
theorem zs_X5_isThing : zmside ze_X5_isThing = true := by decide +kernel
set_option maxRecDepth 100000 in
theorem zm_X5_isThing : ∀ w ∈ zmwords ze_X5_isThing, w ∈ zTG := zmw_of 1108 rfl [1107, 8, 58] (by decide +kernel) (by decide +kernel)
theorem zk_X5_isUnder : zOkC zprog zst zTG zTN ze_X5_isUnder := zOkC_of (by decide +kernel) [] (by decide +kernel) (by decide +kernel) [] (by decide +kernel) (by decide +kernel)
theorem zs_X5_isUnder : zmside ze_X5_isUnder = true := by decide +kernel
set_option maxRecDepth 100000 in
theorem zm_X5_isUnder : ∀ w ∈ zmwords ze_X5_isUnder, w ∈ zTG := zmw_of 1116 rfl [1115, 58] (by decide +kernel) (by decide +kernel)
theorem zk_X5_isWinner : zOkC zprog zst zTG zTN ze_X5_isWinner := zOkC_of (by decide +kernel) [949, 1069, 950] (by decide +kernel) (by decide +kernel) [] (by decide +kernel) (by decide +kernel)
theorem zs_X5_isWinner : zmside ze_X5_isWinner = true := by decide +kernel
set_option maxRecDepth 100000 in
theorem zm_X5_isWinner : ∀ w ∈ zmwords ze_X5_isWinner, w ∈ zTG := zmw_of 1157 rfl [1156, 13, 58] (by decide +kernel) (by decide +kernel)
theorem zk_X5_isWord : zOkC zprog zst zTG zTN ze_X5_isWord := zOkC_of (by decide +kernel) [969, 968, 970, 1239, 1239, 946, 970, 1240] (by decide +kernel) (by decide +kernel) [] (by decide +kernel) (by decide +kernel)
theorem zs_X5_isWord : zmside ze_X5_isWord = true := by decide +kernel
set_option maxRecDepth 100000 in
theorem zm_X5_isWord : ∀ w ∈ zmwords ze_X5_isWord, w ∈ zTG := zmw_of 1238 rfl [1237, 23, 58] (by decide +kernel) (by decide +kernel)
theorem zk_X0_hasElement : zOkC zprog zst zTG zTN ze_X0_hasElement := zOkC_of (by decide +kernel) [293, 230] (by decide +kernel) (by decide +kernel) [297] (by decide +kernel) (by decide +kernel)
theorem zs_X0_hasElement : zmside ze_X0_hasElement = true := by decide +kernel
set_option maxRecDepth 100000 in
theorem zm_X0_hasElement : ∀ w ∈ zmwords ze_X0_hasElement, w ∈ zTG := zmw_of 301 rfl [299, 300, 57] (by decide +kernel) (by decide +kernel)
theorem zk_X0_hasElements : zOkC zprog zst zTG zTN ze_X0_hasElements := zOkC_of (by decide +kernel) [230] (by decide +kernel) (by decide +kernel) [] (by decide +kernel) (by decide +kernel)
theorem zs_X0_hasElements : zmside ze_X0_hasElements = true := by decide +kernel
set_option maxRecDepth 100000 in
theorem zm_X0_hasElements : ∀ w ∈ zmwords ze_X0_hasElements, w ∈ zTG := zmw_of 319 rfl [317, 318, 57] (by decide +kernel) (by decide +kernel)
theorem zk_X0_holdsRow : zOkC zprog zst zTG zTN ze_X0_holdsRow := zOkC_of (by decide +kernel) [228] (by decide +kernel) (by decide +kernel) [297] (by decide +kernel) (by decide +kernel)
theorem zs_X0_holdsRow : zmside ze_X0_holdsRow = true := by decide +kernel
set_option maxRecDepth 100000 in
theorem zm_X0_holdsRow : ∀ w ∈ zmwords ze_X0_holdsRow, w ∈ zTG := zmw_of 296 rfl [294, 295, 57] (by decide +kernel) (by decide +kernel)
theorem zk_X0_init : zOkC zprog zst zTG zTN ze_X0_init := zOkC_of (by decide +kernel) [227, 228, 230, 241, 232] (by decide +kernel) (by decide +kernel) [] (by decide +kernel) (by decide +kernel)
theorem zs_X0_init : zmside ze_X0_init = true := by decide +kernel
set_option maxRecDepth 100000 in
theorem zm_X0_init : ∀ w ∈ zmwords ze_X0_init, w ∈ zTG := zmw_of 226 rfl [225, 57] (by decide +kernel) (by decide +kernel)
theorem zk_X0_lackOfRow : zOkC zprog zst zTG zTN ze_X0_lackOfRow := zOkC_of (by decide +kernel) [293, 228] (by decide +kernel) (by decide +kernel) [] (by decide +kernel) (by decide +kernel)
theorem zs_X0_lackOfRow : zmside ze_X0_lackOfRow = true := by decide +kernel
set_option maxRecDepth 100000 in
theorem zm_X0_lackOfRow : ∀ w ∈ zmwords ze_X0_lackOfRow, w ∈ zTG := zmw_of 292 rfl [290, 291, 57] (by decide +kernel) (by decide +kernel)
theorem zk_X0_lowestBits : zOkC zprog zst zTG zTN ze_X0_lowestBits := zOkC_of (by decide +kernel) [228] (by decide +kernel) (by decide +kernel) [306] (by decide +kernel) (by decide +kernel)
theorem zs_X0_lowestBits : zmside ze_X0_lowestBits = true := by decide +kernel
set_option maxRecDepth 100000 in
theorem zm_X0_lowestBits : ∀ w ∈ zmwords ze_X0_lowestBits, w ∈ zTG := zmw_of 305 rfl [303, 304, 57] (by decide +kernel) (by decide +kernel)
theorem zk_X0_putRow : zOkC zprog zst zTG zTN ze_X0_putRow := zOkC_of (by decide +kernel) [228, 230, 232] (by decide +kernel) (by decide +kernel) [] (by decide +kernel) (by decide +kernel)
theorem zs_X0_putRow : zmside ze_X0_putRow = true := by decide +kernel
set_option maxRecDepth 100000 in
theorem zm_X0_putRow : ∀ w ∈ zmwords ze_X0_putRow, w ∈ zTG := zmw_of 284 rfl [282, 283, 57] (by decide +kernel) (by decide +kernel)
theorem zk_X0_slipAt : zOkC zprog zst zTG zTN ze_X0_slipAt := zOkC_of (by decide +kernel) [827, 232, 828] (by decide +kernel) (by decide +kernel) [] (by decide +kernel) (by decide +kernel)
theorem zs_X0_slipAt : zmside ze_X0_slipAt = true := by decide +kernel
set_option maxRecDepth 100000 in
theorem zm_X0_slipAt : ∀ w ∈ zmwords ze_X0_slipAt, w ∈ zTG := zmw_of 826 rfl [824, 825, 57] (by decide +kernel) (by decide +kernel)
theorem zk_X1_addBuyer : zOkC zprog zst zTG zTN ze_X1_addBuyer := zOkC_of (by decide +kernel) [124, 127, 124, 124] (by decide +kernel) (by decide +kernel) [] (by decide +kernel) (by decide +kernel)
theorem zs_X1_addBuyer : zmside ze_X1_addBuyer = true := by decide +kernel
set_option maxRecDepth 100000 in
theorem zm_X1_addBuyer : ∀ w ∈ zmwords ze_X1_addBuyer, w ∈ zTG := zmw_of 456 rfl [454, 455, 54] (by decide +kernel) (by decide +kernel)
theorem zk_X1_addThing : zOkC zprog zst zTG zTN ze_X1_addThing := zOkC_of (by decide +kernel) [110, 114, 116, 118, 120, 122, 110, 110] (by decide +kernel) (by decide +kernel) [] (by decide +kernel) (by decide +kernel)
theorem zs_X1_addThing : zmside ze_X1_addThing = true := by decide +kernel
set_option maxRecDepth 100000 in
theorem zm_X1_addThing : ∀ w ∈ zmwords ze_X1_addThing, w ∈ zTG := zmw_of 448 rfl [446, 447, 54] (by decide +kernel) (by decide +kernel)
theorem zk_X1_become : zOkC zprog zst zTG zTN ze_X1_become := zOkC_of (by decide +kernel) [89, 89, 92, 92, 95, 95, 99, 99, 102, 102, 105, 105, 107, 107, 109, 109, 110, 110, 114, 114, 487, 116, 116, 487, 118, 118, 487, 120, 120, 487, 122, 122, 487, 124, 124, 127, 127, 487, 129, 129, 487] (by decide +kernel) (by decide +kernel) [] (by decide +kernel) (by decide +kernel)
theorem zs_X1_become : zmside ze_X1_become = true := by decide +kernel
set_option maxRecDepth 100000 in
theorem zm_X1_become : ∀ w ∈ zmwords ze_X1_become, w ∈ zTG := zmw_of 486 rfl [484, 485, 54] (by decide +kernel) (by decide +kernel)
theorem zk_X1_beginFete : zOkC zprog zst zTG zTN ze_X1_beginFete := zOkC_of (by decide +kernel) [85, 102, 110, 642, 122, 400, 122, 120] (by decide +kernel) (by decide +kernel) [] (by decide +kernel) (by decide +kernel)
theorem zs_X1_beginFete : zmside ze_X1_beginFete = true := by decide +kernel
set_option maxRecDepth 100000 in
theorem zm_X1_beginFete : ∀ w ∈ zmwords ze_X1_beginFete, w ∈ zTG := zmw_of 909 rfl [907, 908, 54] (by decide +kernel) (by decide +kernel)
theorem zk_X1_canBeDrawn : zOkC zprog zst zTG zTN ze_X1_canBeDrawn := zOkC_of (by decide +kernel) [641, 437, 441, 642, 102, 386, 643] (by decide +kernel) (by decide +kernel) [] (by decide +kernel) (by decide +kernel)
theorem zs_X1_canBeDrawn : zmside ze_X1_canBeDrawn = true := by decide +kernel
set_option maxRecDepth 100000 in
theorem zm_X1_canBeDrawn : ∀ w ∈ zmwords ze_X1_canBeDrawn, w ∈ zTG := zmw_of 640 rfl [638, 639, 54] (by decide +kernel) (by decide +kernel)
theorem zk_X1_countDrawable : zOkC zprog zst zTG zTN ze_X1_countDrawable := zOkC_of (by decide +kernel) [386, 362, 102, 643, 656] (by decide +kernel) (by decide +kernel) [] (by decide +kernel) (by decide +kernel)
theorem zs_X1_countDrawable : zmside ze_X1_countDrawable = true := by decide +kernel
set_option maxRecDepth 100000 in
theorem zm_X1_countDrawable : ∀ w ∈ zmwords ze_X1_countDrawable, w ∈ zTG := zmw_of 655 rfl [653, 654, 54] (by decide +kernel) (by decide +kernel)
theorem zk_X1_countIn : zOkC zprog zst zTG zTN ze_X1_countIn := zOkC_of (by decide +kernel) [109, 390] (by decide +kernel) (by decide +kernel) [] (by decide +kernel) (by decide +kernel)
theorem zs_X1_countIn : zmside ze_X1_countIn = true := by decide +kernel
set_option maxRecDepth 100000 in
theorem zm_X1_countIn : ∀ w ∈ zmwords ze_X1_countIn, w ∈ zTG := zmw_of 389 rfl [387, 388, 54] (by decide +kernel) (by decide +kernel)
theorem zk_X1_draw : zOkC zprog zst zTG zTN ze_X1_draw := zOkC_of (by decide +kernel) [680, 833, 102, 102, 110, 122, 120, 114] (by decide +kernel) (by decide +kernel) [] (by decide +kernel) (by decide +kernel)
theorem zs_X1_draw : zmside ze_X1_draw = true := by decide +kernel
set_option maxRecDepth 100000 in
theorem zm_X1_draw : ∀ w ∈ zmwords ze_X1_draw, w ∈ zTG := zmw_of 832 rfl [830, 831, 54] (by decide +kernel) (by decide +kernel)
theorem zk_X1_drawBelow : zOkC zprog zst zTG zTN ze_X1_drawBelow := zOkC_of (by decide +kernel) [107, 892, 107, 107] (by decide +kernel) (by decide +kernel) [] (by decide +kernel) (by decide +kernel)
theorem zs_X1_drawBelow : zmside ze_X1_drawBelow = true := by decide +kernel
set_option maxRecDepth 100000 in
theorem zm_X1_drawBelow : ∀ w ∈ zmwords ze_X1_drawBelow, w ∈ zTG := zmw_of 891 rfl [889, 890, 54] (by decide +kernel) (by decide +kernel)
theorem zk_X1_firstBrought : zOkC zprog zst zTG zTN ze_X1_firstBrought := zOkC_of (by decide +kernel) [362, 370, 110] (by decide +kernel) (by decide +kernel) [] (by decide +kernel) (by decide +kernel)
theorem zs_X1_firstBrought : zmside ze_X1_firstBrought = true := by decide +kernel
set_option maxRecDepth 100000 in
theorem zm_X1_firstBrought : ∀ w ∈ zmwords ze_X1_firstBrought, w ∈ zTG := zmw_of 361 rfl [359, 360, 54] (by decide +kernel) (by decide +kernel)
theorem zk_X1_goesToWait : zOkC zprog zst zTG zTN ze_X1_goesToWait := zOkC_of (by decide +kernel) [356, 118, 102, 379] (by decide +kernel) (by decide +kernel) [] (by decide +kernel) (by decide +kernel)
theorem zs_X1_goesToWait : zmside ze_X1_goesToWait = true := by decide +kernel
set_option maxRecDepth 100000 in
theorem zm_X1_goesToWait : ∀ w ∈ zmwords ze_X1_goesToWait, w ∈ zTG := zmw_of 378 rfl [376, 377, 54] (by decide +kernel) (by decide +kernel)
theorem zk_X1_init : zOkC zprog zst zTG zTN ze_X1_init := zOkC_of (by decide +kernel) [80, 89, 92, 95, 99, 102, 105, 107, 109, 110, 165, 114, 165, 116, 165, 118, 165, 120, 165, 122, 124, 165, 127, 165, 129, 81] (by decide +kernel) (by decide +kernel) [] (by decide +kernel) (by decide +kernel)
theorem zs_X1_init : zmside ze_X1_init = true := by decide +kernel
set_option maxRecDepth 100000 in
theorem zm_X1_init : ∀ w ∈ zmwords ze_X1_init, w ∈ zTG := zmw_of 79 rfl [78, 54] (by decide +kernel) (by decide +kernel)
theorem zk_X1_liking : zOkC zprog zst zTG zTN ze_X1_liking := zOkC_of (by decide +kernel) [404, 356, 129] (by decide +kernel) (by decide +kernel) [] (by decide +kernel) (by decide +kernel)
theorem zs_X1_liking : zmside ze_X1_liking = true := by decide +kernel
set_option maxRecDepth 100000 in
theorem zm_X1_liking : ∀ w ∈ zmwords ze_X1_liking, w ∈ zTG := zmw_of 403 rfl [401, 402, 54] (by decide +kernel) (by decide +kernel)
theorem zk_X1_likingByAll : zOkC zprog zst zTG zTN ze_X1_likingByAll := zOkC_of (by decide +kernel) [124, 400] (by decide +kernel) (by decide +kernel) [] (by decide +kernel) (by decide +kernel)
theorem zs_X1_likingByAll : zmside ze_X1_likingByAll = true := by decide +kernel
set_option maxRecDepth 100000 in
theorem zm_X1_likingByAll : ∀ w ∈ zmwords ze_X1_likingByAll, w ∈ zTG := zmw_of 399 rfl [397, 398, 54] (by decide +kernel) (by decide +kernel)
theorem zk_X1_likingOfAll : zOkC zprog zst zTG zTN ze_X1_likingOfAll := zOkC_of (by decide +kernel) [110, 400] (by decide +kernel) (by decide +kernel) [] (by decide +kernel) (by decide +kernel)
theorem zs_X1_likingOfAll : zmside ze_X1_likingOfAll = true := by decide +kernel
set_option maxRecDepth 100000 in
theorem zm_X1_likingOfAll : ∀ w ∈ zmwords ze_X1_likingOfAll, w ∈ zTG := zmw_of 630 rfl [628, 629, 54] (by decide +kernel) (by decide +kernel)
theorem zk_X1_pay : zOkC zprog zst zTG zTN ze_X1_pay := zOkC_of (by decide +kernel) [404, 127, 105, 105] (by decide +kernel) (by decide +kernel) [] (by decide +kernel) (by decide +kernel)
theorem zs_X1_pay : zmside ze_X1_pay = true := by decide +kernel
set_option maxRecDepth 100000 in
theorem zm_X1_pay : ∀ w ∈ zmwords ze_X1_pay, w ∈ zTG := zmw_of 845 rfl [843, 844, 54] (by decide +kernel) (by decide +kernel)
theorem zk_X1_putAllIn : zOkC zprog zst zTG zTN ze_X1_putAllIn := zOkC_of (by decide +kernel) [89, 109] (by decide +kernel) (by decide +kernel) [] (by decide +kernel) (by decide +kernel)
theorem zs_X1_putAllIn : zmside ze_X1_putAllIn = true := by decide +kernel
set_option maxRecDepth 100000 in
theorem zm_X1_putAllIn : ∀ w ∈ zmwords ze_X1_putAllIn, w ∈ zTG := zmw_of 88 rfl [86, 87, 54] (by decide +kernel) (by decide +kernel)
theorem zk_X1_putLiking : zOkC zprog zst zTG zTN ze_X1_putLiking := zOkC_of (by decide +kernel) [404, 356, 129] (by decide +kernel) (by decide +kernel) [] (by decide +kernel) (by decide +kernel)
theorem zs_X1_putLiking : zmside ze_X1_putLiking = true := by decide +kernel
set_option maxRecDepth 100000 in
theorem zm_X1_putLiking : ∀ w ∈ zmwords ze_X1_putLiking, w ∈ zTG := zmw_of 466 rfl [464, 465, 54] (by decide +kernel) (by decide +kernel)
theorem zk_X1_putSlips : zOkC zprog zst zTG zTN ze_X1_putSlips := zOkC_of (by decide +kernel) [89, 85] (by decide +kernel) (by decide +kernel) [] (by decide +kernel) (by decide +kernel)
theorem zs_X1_putSlips : zmside ze_X1_putSlips = true := by decide +kernel
set_option maxRecDepth 100000 in
theorem zm_X1_putSlips : ∀ w ∈ zmwords ze_X1_putSlips, w ∈ zTG := zmw_of 84 rfl [82, 83, 54] (by decide +kernel) (by decide +kernel)
theorem zk_X1_quartersOf : zOkC zprog zst zTG zTN ze_X1_quartersOf := zOkC_of (by decide +kernel) [89, 89, 89] (by decide +kernel) (by decide +kernel) [] (by decide +kernel) (by decide +kernel)
theorem zs_X1_quartersOf : zmside ze_X1_quartersOf = true := by decide +kernel
set_option maxRecDepth 100000 in
theorem zm_X1_quartersOf : ∀ w ∈ zmwords ze_X1_quartersOf, w ∈ zTG := zmw_of 789 rfl [787, 788, 54] (by decide +kernel) (by decide +kernel)
