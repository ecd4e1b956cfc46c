def tsp_X5_chain : Nat → Option (Nat × Int × Int) := fun _ => none
def tl_X5_chain_129 : List tCut := tfU 36 221 (fun x => (103, [(6, tI x x), (0, tR 5), (1, tI 0 7), (2, tR 43), (3, tI 0 60), (4, tI 11 11), (5, tR 43)], 13, 3328)) ++ ([(48, [(0, tR 5), (1, tI 0 7), (2, tR 43), (3, tI 0 60), (4, tI 12 12), (5, tR 43), (6, tI 256 256)], 13, 3328)])
def tr_X5_chain_129 : List tCut := []
def tl_X5_chain_128 : List tCut := tfU 48 173 (fun x => (103, [(6, tI x x), (0, tR 5), (1, tI 0 7), (2, tR 43), (3, tI 0 60), (4, tI 11 11), (5, tR 43)], 13, 3328))
def tr_X5_chain_128 : List tCut := tl_X5_chain_129 ++ tr_X5_chain_129
def tl_X5_chain_127 : List tCut := tfU 48 125 (fun x => (103, [(6, tI x x), (0, tR 5), (1, tI 0 7), (2, tR 43), (3, tI 0 60), (4, tI 11 11), (5, tR 43)], 13, 3328))
def tr_X5_chain_127 : List tCut := tl_X5_chain_128 ++ tr_X5_chain_128
def tl_X5_chain_126 : List tCut := tfU 48 77 (fun x => (103, [(6, tI x x), (0, tR 5), (1, tI 0 7), (2, tR 43), (3, tI 0 60), (4, tI 11 11), (5, tR 43)], 13, 3328))
def tr_X5_chain_126 : List tCut := tl_X5_chain_127 ++ tr_X5_chain_127
def tl_X5_chain_125 : List tCut := tfU 48 29 (fun x => (103, [(6, tI x x), (0, tR 5), (1, tI 0 7), (2, tR 43), (3, tI 0 60), (4, tI 11 11), (5, tR 43)], 13, 3328))
def tr_X5_chain_125 : List tCut := tl_X5_chain_126 ++ tr_X5_chain_126
def tl_X5_chain_124 : List tCut := tfU 19 238 (fun x => (65, [(6, tI x x), (0, tR 5), (1, tI 0 7), (2, tR 43), (3, tI 0 60), (4, tI 11 11), (5, tR 43)], 13, 3328)) ++ (tfU 29 0 (fun x => (103, [(6, tI x x), (0, tR 5), (1, tI 0 7), (2, tR 43), (3, tI 0 60), (4, tI 11 11), (5, tR 43)], 13, 3328)))
def tr_X5_chain_124 : List tCut := tl_X5_chain_125 ++ tr_X5_chain_125
def tl_X5_chain_123 : List tCut := tfU 48 190 (fun x => (65, [(6, tI x x), (0, tR 5), (1, tI 0 7), (2, tR 43), (3, tI 0 60), (4, tI 11 11), (5, tR 43)], 13, 3328))
def tr_X5_chain_123 : List tCut := tl_X5_chain_124 ++ tr_X5_chain_124
def tl_X5_chain_122 : List tCut := tfU 48 142 (fun x => (65, [(6, tI x x), (0, tR 5), (1, tI 0 7), (2, tR 43), (3, tI 0 60), (4, tI 11 11), (5, tR 43)], 13, 3328))
def tr_X5_chain_122 : List tCut := tl_X5_chain_123 ++ tr_X5_chain_123
def tl_X5_chain_121 : List tCut := tfU 48 94 (fun x => (65, [(6, tI x x), (0, tR 5), (1, tI 0 7), (2, tR 43), (3, tI 0 60), (4, tI 11 11), (5, tR 43)], 13, 3328))
def tr_X5_chain_121 : List tCut := tl_X5_chain_122 ++ tr_X5_chain_122
def tl_X5_chain_120 : List tCut := tfU 48 46 (fun x => (65, [(6, tI x x), (0, tR 5), (1, tI 0 7), (2, tR 43), (3, tI 0 60), (4, tI 11 11), (5, tR 43)], 13, 3328))
def tr_X5_chain_120 : List tCut := tl_X5_chain_121 ++ tr_X5_chain_121
def tl_X5_chain_119 : List tCut := [(103, [(0, tR 5), (1, tI 0 7), (2, tR 43), (3, tI 0 60), (4, tI 10 10), (5, tR 43), (6, tI 256 256)], 12, 3072), (48, [(0, tR 5), (1, tI 0 7), (2, tR 43), (3, tI 0 60), (4, tI 11 11), (5, tR 43), (6, tI 256 256)], 12, 3072)] ++ (tfU 46 0 (fun x => (65, [(6, tI x x), (0, tR 5), (1, tI 0 7), (2, tR 43), (3, tI 0 60), (4, tI 11 11), (5, tR 43)], 13, 3328)))
def tr_X5_chain_119 : List tCut := tl_X5_chain_120 ++ tr_X5_chain_120
def tl_X5_chain_118 : List tCut := tfU 48 208 (fun x => (103, [(6, tI x x), (0, tR 5), (1, tI 0 7), (2, tR 43), (3, tI 0 60), (4, tI 10 10), (5, tR 43)], 12, 3072))
def tr_X5_chain_118 : List tCut := tl_X5_chain_119 ++ tr_X5_chain_119
def tl_X5_chain_117 : List tCut := tfU 48 160 (fun x => (103, [(6, tI x x), (0, tR 5), (1, tI 0 7), (2, tR 43), (3, tI 0 60), (4, tI 10 10), (5, tR 43)], 12, 3072))
def tr_X5_chain_117 : List tCut := tl_X5_chain_118 ++ tr_X5_chain_118
def tl_X5_chain_116 : List tCut := tfU 48 112 (fun x => (103, [(6, tI x x), (0, tR 5), (1, tI 0 7), (2, tR 43), (3, tI 0 60), (4, tI 10 10), (5, tR 43)], 12, 3072))
def tr_X5_chain_116 : List tCut := tl_X5_chain_117 ++ tr_X5_chain_117
def tl_X5_chain_115 : List tCut := tfU 48 64 (fun x => (103, [(6, tI x x), (0, tR 5), (1, tI 0 7), (2, tR 43), (3, tI 0 60), (4, tI 10 10), (5, tR 43)], 12, 3072))
def tr_X5_chain_115 : List tCut := tl_X5_chain_116 ++ tr_X5_chain_116
def tl_X5_chain_114 : List tCut := tfU 48 16 (fun x => (103, [(6, tI x x), (0, tR 5), (1, tI 0 7), (2, tR 43), (3, tI 0 60), (4, tI 10 10), (5, tR 43)], 12, 3072))
def tr_X5_chain_114 : List tCut := tl_X5_chain_115 ++ tr_X5_chain_115
def tl_X5_chain_113 : List tCut := tfU 32 225 (fun x => (65, [(6, tI x x), (0, tR 5), (1, tI 0 7), (2, tR 43), (3, tI 0 60), (4, tI 10 10), (5, tR 43)], 12, 3072)) ++ (tfU 16 0 (fun x => (103, [(6, tI x x), (0, tR 5), (1, tI 0 7), (2, tR 43), (3, tI 0 60), (4, tI 10 10), (5, tR 43)], 12, 3072)))
def tr_X5_chain_113 : List tCut := tl_X5_chain_114 ++ tr_X5_chain_114
def tl_X5_chain_112 : List tCut := tfU 48 177 (fun x => (65, [(6, tI x x), (0, tR 5), (1, tI 0 7), (2, tR 43), (3, tI 0 60), (4, tI 10 10), (5, tR 43)], 12, 3072))
def tr_X5_chain_112 : List tCut := tl_X5_chain_113 ++ tr_X5_chain_113
def tl_X5_chain_111 : List tCut := tfU 48 129 (fun x => (65, [(6, tI x x), (0, tR 5), (1, tI 0 7), (2, tR 43), (3, tI 0 60), (4, tI 10 10), (5, tR 43)], 12, 3072))
def tr_X5_chain_111 : List tCut := tl_X5_chain_112 ++ tr_X5_chain_112
def tl_X5_chain_110 : List tCut := tfU 48 81 (fun x => (65, [(6, tI x x), (0, tR 5), (1, tI 0 7), (2, tR 43), (3, tI 0 60), (4, tI 10 10), (5, tR 43)], 12, 3072))
def tr_X5_chain_110 : List tCut := tl_X5_chain_111 ++ tr_X5_chain_111
def tl_X5_chain_109 : List tCut := tfU 48 33 (fun x => (65, [(6, tI x x), (0, tR 5), (1, tI 0 7), (2, tR 43), (3, tI 0 60), (4, tI 10 10), (5, tR 43)], 12, 3072))
def tr_X5_chain_109 : List tCut := tl_X5_chain_110 ++ tr_X5_chain_110
def tl_X5_chain_108 : List tCut := tfU 14 243 (fun x => (103, [(6, tI x x), (0, tR 5), (1, tI 0 7), (2, tR 43), (3, tI 0 60), (4, tI 9 9), (5, tR 43)], 11, 2816)) ++ ([(48, [(0, tR 5), (1, tI 0 7), (2, tR 43), (3, tI 0 60), (4, tI 10 10), (5, tR 43), (6, tI 256 256)], 11, 2816)] ++ (tfU 33 0 (fun x => (65, [(6, tI x x), (0, tR 5), (1, tI 0 7), (2, tR 43), (3, tI 0 60), (4, tI 10 10), (5, tR 43)], 12, 3072))))
def tr_X5_chain_108 : List tCut := tl_X5_chain_109 ++ tr_X5_chain_109
def tl_X5_chain_107 : List tCut := tfU 48 195 (fun x => (103, [(6, tI x x), (0, tR 5), (1, tI 0 7), (2, tR 43), (3, tI 0 60), (4, tI 9 9), (5, tR 43)], 11, 2816))
def tr_X5_chain_107 : List tCut := tl_X5_chain_108 ++ tr_X5_chain_108
def tl_X5_chain_106 : List tCut := tfU 48 147 (fun x => (103, [(6, tI x x), (0, tR 5), (1, tI 0 7), (2, tR 43), (3, tI 0 60), (4, tI 9 9), (5, tR 43)], 11, 2816))
def tr_X5_chain_106 : List tCut := tl_X5_chain_107 ++ tr_X5_chain_107
def tl_X5_chain_105 : List tCut := tfU 48 99 (fun x => (103, [(6, tI x x), (0, tR 5), (1, tI 0 7), (2, tR 43), (3, tI 0 60), (4, tI 9 9), (5, tR 43)], 11, 2816))
def tr_X5_chain_105 : List tCut := tl_X5_chain_106 ++ tr_X5_chain_106
def tl_X5_chain_104 : List tCut := tfU 48 51 (fun x => (103, [(6, tI x x), (0, tR 5), (1, tI 0 7), (2, tR 43), (3, tI 0 60), (4, tI 9 9), (5, tR 43)], 11, 2816))
def tr_X5_chain_104 : List tCut := tl_X5_chain_105 ++ tr_X5_chain_105
def tl_X5_chain_103 : List tCut := tfU 48 3 (fun x => (103, [(6, tI x x), (0, tR 5), (1, tI 0 7), (2, tR 43), (3, tI 0 60), (4, tI 9 9), (5, tR 43)], 11, 2816))
def tr_X5_chain_103 : List tCut := tl_X5_chain_104 ++ tr_X5_chain_104
def tl_X5_chain_102 : List tCut := tfU 45 212 (fun x => (65, [(6, tI x x), (0, tR 5), (1, tI 0 7), (2, tR 43), (3, tI 0 60), (4, tI 9 9), (5, tR 43)], 11, 2816)) ++ (tfU 3 0 (fun x => (103, [(6, tI x x), (0, tR 5), (1, tI 0 7), (2, tR 43), (3, tI 0 60), (4, tI 9 9), (5, tR 43)], 11, 2816)))
def tr_X5_chain_102 : List tCut := tl_X5_chain_103 ++ tr_X5_chain_103
def tl_X5_chain_101 : List tCut := tfU 48 164 (fun x => (65, [(6, tI x x), (0, tR 5), (1, tI 0 7), (2, tR 43), (3, tI 0 60), (4, tI 9 9), (5, tR 43)], 11, 2816))
def tr_X5_chain_101 : List tCut := tl_X5_chain_102 ++ tr_X5_chain_102
def tl_X5_chain_100 : List tCut := tfU 48 116 (fun x => (65, [(6, tI x x), (0, tR 5), (1, tI 0 7), (2, tR 43), (3, tI 0 60), (4, tI 9 9), (5, tR 43)], 11, 2816))
def tr_X5_chain_100 : List tCut := tl_X5_chain_101 ++ tr_X5_chain_101
def tl_X5_chain_99 : List tCut := tfU 48 68 (fun x => (65, [(6, tI x x), (0, tR 5), (1, tI 0 7), (2, tR 43), (3, tI 0 60), (4, tI 9 9), (5, tR 43)], 11, 2816))
def tr_X5_chain_99 : List tCut := tl_X5_chain_100 ++ tr_X5_chain_100
def tl_X5_chain_98 : List tCut := tfU 48 20 (fun x => (65, [(6, tI x x), (0, tR 5), (1, tI 0 7), (2, tR 43), (3, tI 0 60), (4, tI 9 9), (5, tR 43)], 11, 2816))
def tr_X5_chain_98 : List tCut := tl_X5_chain_99 ++ tr_X5_chain_99
def tl_X5_chain_97 : List tCut := tfU 27 230 (fun x => (103, [(6, tI x x), (0, tR 5), (1, tI 0 7), (2, tR 43), (3, tI 0 60), (4, tI 8 8), (5, tR 43)], 10, 2560)) ++ ([(48, [(0, tR 5), (1, tI 0 7), (2, tR 43), (3, tI 0 60), (4, tI 9 9), (5, tR 43), (6, tI 256 256)], 10, 2560)] ++ (tfU 20 0 (fun x => (65, [(6, tI x x), (0, tR 5), (1, tI 0 7), (2, tR 43), (3, tI 0 60), (4, tI 9 9), (5, tR 43)], 11, 2816))))
def tr_X5_chain_97 : List tCut := tl_X5_chain_98 ++ tr_X5_chain_98
def tl_X5_chain_96 : List tCut := tfU 48 182 (fun x => (103, [(6, tI x x), (0, tR 5), (1, tI 0 7), (2, tR 43), (3, tI 0 60), (4, tI 8 8), (5, tR 43)], 10, 2560))
def tr_X5_chain_96 : List tCut := tl_X5_chain_97 ++ tr_X5_chain_97
def tl_X5_chain_95 : List tCut := tfU 48 134 (fun x => (103, [(6, tI x x), (0, tR 5), (1, tI 0 7), (2, tR 43), (3, tI 0 60), (4, tI 8 8), (5, tR 43)], 10, 2560))
def tr_X5_chain_95 : List tCut := tl_X5_chain_96 ++ tr_X5_chain_96
def tl_X5_chain_94 : List tCut := tfU 48 86 (fun x => (103, [(6, tI x x), (0, tR 5), (1, tI 0 7), (2, tR 43), (3, tI 0 60), (4, tI 8 8), (5, tR 43)], 10, 2560))
def tr_X5_chain_94 : List tCut := tl_X5_chain_95 ++ tr_X5_chain_95
def tl_X5_chain_93 : List tCut := tfU 48 38 (fun x => (103, [(6, tI x x), (0, tR 5), (1, tI 0 7), (2, tR 43), (3, tI 0 60), (4, tI 8 8), (5, tR 43)], 10, 2560))
def tr_X5_chain_93 : List tCut := tl_X5_chain_94 ++ tr_X5_chain_94
def tl_X5_chain_92 : List tCut := tfU 10 247 (fun x => (65, [(6, tI x x), (0, tR 5), (1, tI 0 7), (2, tR 43), (3, tI 0 60), (4, tI 8 8), (5, tR 43)], 10, 2560)) ++ (tfU 38 0 (fun x => (103, [(6, tI x x), (0, tR 5), (1, tI 0 7), (2, tR 43), (3, tI 0 60), (4, tI 8 8), (5, tR 43)], 10, 2560)))
def tr_X5_chain_92 : List tCut := tl_X5_chain_93 ++ tr_X5_chain_93
def tl_X5_chain_91 : List tCut := tfU 48 199 (fun x => (65, [(6, tI x x), (0, tR 5), (1, tI 0 7), (2, tR 43), (3, tI 0 60), (4, tI 8 8), (5, tR 43)], 10, 2560))
def tr_X5_chain_91 : List tCut := tl_X5_chain_92 ++ tr_X5_chain_92
def tl_X5_chain_90 : List tCut := tfU 48 151 (fun x => (65, [(6, tI x x), (0, tR 5), (1, tI 0 7), (2, tR 43), (3, tI 0 60), (4, tI 8 8), (5, tR 43)], 10, 2560))
def tr_X5_chain_90 : List tCut := tl_X5_chain_91 ++ tr_X5_chain_91
def tl_X5_chain_89 : List tCut := tfU 48 103 (fun x => (65, [(6, tI x x), (0, tR 5), (1, tI 0 7), (2, tR 43), (3, tI 0 60), (4, tI 8 8), (5, tR 43)], 10, 2560))
def tr_X5_chain_89 : List tCut := tl_X5_chain_90 ++ tr_X5_chain_90
def tl_X5_chain_88 : List tCut := tfU 48 55 (fun x => (65, [(6, tI x x), (0, tR 5), (1, tI 0 7), (2, tR 43), (3, tI 0 60), (4, tI 8 8), (5, tR 43)], 10, 2560))
def tr_X5_chain_88 : List tCut := tl_X5_chain_89 ++ tr_X5_chain_89
def tl_X5_chain_87 : List tCut := tfU 48 7 (fun x => (65, [(6, tI x x), (0, tR 5), (1, tI 0 7), (2, tR 43), (3, tI 0 60), (4, tI 8 8), (5, tR 43)], 10, 2560))
def tr_X5_chain_87 : List tCut := tl_X5_chain_88 ++ tr_X5_chain_88
def tl_X5_chain_86 : List tCut := tfU 40 217 (fun x => (103, [(6, tI x x), (0, tR 5), (1, tI 0 7), (2, tR 43), (3, tI 0 60), (4, tI 7 7), (5, tR 43)], 9, 2304)) ++ ([(48, [(0, tR 5), (1, tI 0 7), (2, tR 43), (3, tI 0 60), (4, tI 8 8), (5, tR 43), (6, tI 256 256)], 9, 2304)] ++ (tfU 7 0 (fun x => (65, [(6, tI x x), (0, tR 5), (1, tI 0 7), (2, tR 43), (3, tI 0 60), (4, tI 8 8), (5, tR 43)], 10, 2560))))
def tr_X5_chain_86 : List tCut := tl_X5_chain_87 ++ tr_X5_chain_87
def tl_X5_chain_85 : List tCut := tfU 48 169 (fun x => (103, [(6, tI x x), (0, tR 5), (1, tI 0 7), (2, tR 43), (3, tI 0 60), (4, tI 7 7), (5, tR 43)], 9, 2304))
def tr_X5_chain_85 : List tCut := tl_X5_chain_86 ++ tr_X5_chain_86
def tl_X5_chain_84 : List tCut := tfU 48 121 (fun x => (103, [(6, tI x x), (0, tR 5), (1, tI 0 7), (2, tR 43), (3, tI 0 60), (4, tI 7 7), (5, tR 43)], 9, 2304))
def tr_X5_chain_84 : List tCut := tl_X5_chain_85 ++ tr_X5_chain_85
def tl_X5_chain_83 : List tCut := tfU 48 73 (fun x => (103, [(6, tI x x), (0, tR 5), (1, tI 0 7), (2, tR 43), (3, tI 0 60), (4, tI 7 7), (5, tR 43)], 9, 2304))
def tr_X5_chain_83 : List tCut := tl_X5_chain_84 ++ tr_X5_chain_84
def tl_X5_chain_82 : List tCut := tfU 48 25 (fun x => (103, [(6, tI x x), (0, tR 5), (1, tI 0 7), (2, tR 43), (3, tI 0 60), (4, tI 7 7), (5, tR 43)], 9, 2304))
def tr_X5_chain_82 : List tCut := tl_X5_chain_83 ++ tr_X5_chain_83
def tl_X5_chain_81 : List tCut := tfU 23 234 (fun x => (65, [(6, tI x x), (0, tR 5), (1, tI 0 7), (2, tR 43), (3, tI 0 60), (4, tI 7 7), (5, tR 43)], 9, 2304)) ++ (tfU 25 0 (fun x => (103, [(6, tI x x), (0, tR 5), (1, tI 0 7), (2, tR 43), (3, tI 0 60), (4, tI 7 7), (5, tR 43)], 9, 2304)))
def tr_X5_chain_81 : List tCut := tl_X5_chain_82 ++ tr_X5_chain_82
def tl_X5_chain_80 : List tCut := tfU 48 186 (fun x => (65, [(6, tI x x), (0, tR 5), (1, tI 0 7), (2, tR 43), (3, tI 0 60), (4, tI 7 7), (5, tR 43)], 9, 2304))
def tr_X5_chain_80 : List tCut := tl_X5_chain_81 ++ tr_X5_chain_81
def tl_X5_chain_79 : List tCut := tfU 48 138 (fun x => (65, [(6, tI x x), (0, tR 5), (1, tI 0 7), (2, tR 43), (3, tI 0 60), (4, tI 7 7), (5, tR 43)], 9, 2304))
def tr_X5_chain_79 : List tCut := tl_X5_chain_80 ++ tr_X5_chain_80
def tl_X5_chain_78 : List tCut := tfU 48 90 (fun x => (65, [(6, tI x x), (0, tR 5), (1, tI 0 7), (2, tR 43), (3, tI 0 60), (4, tI 7 7), (5, tR 43)], 9, 2304))
def tr_X5_chain_78 : List tCut := tl_X5_chain_79 ++ tr_X5_chain_79
def tl_X5_chain_77 : List tCut := tfU 48 42 (fun x => (65, [(6, tI x x), (0, tR 5), (1, tI 0 7), (2, tR 43), (3, tI 0 60), (4, tI 7 7), (5, tR 43)], 9, 2304))
def tr_X5_chain_77 : List tCut := tl_X5_chain_78 ++ tr_X5_chain_78
def tl_X5_chain_76 : List tCut := tfU 5 252 (fun x => (103, [(6, tI x x), (0, tR 5), (1, tI 0 7), (2, tR 43), (3, tI 0 60), (4, tI 6 6), (5, tR 43)], 8, 2048)) ++ ([(48, [(0, tR 5), (1, tI 0 7), (2, tR 43), (3, tI 0 60), (4, tI 7 7), (5, tR 43), (6, tI 256 256)], 8, 2048)] ++ (tfU 42 0 (fun x => (65, [(6, tI x x), (0, tR 5), (1, tI 0 7), (2, tR 43), (3, tI 0 60), (4, tI 7 7), (5, tR 43)], 9, 2304))))
def tr_X5_chain_76 : List tCut := tl_X5_chain_77 ++ tr_X5_chain_77
def tl_X5_chain_75 : List tCut := tfU 48 204 (fun x => (103, [(6, tI x x), (0, tR 5), (1, tI 0 7), (2, tR 43), (3, tI 0 60), (4, tI 6 6), (5, tR 43)], 8, 2048))
def tr_X5_chain_75 : List tCut := tl_X5_chain_76 ++ tr_X5_chain_76
def tl_X5_chain_74 : List tCut := tfU 48 156 (fun x => (103, [(6, tI x x), (0, tR 5), (1, tI 0 7), (2, tR 43), (3, tI 0 60), (4, tI 6 6), (5, tR 43)], 8, 2048))
def tr_X5_chain_74 : List tCut := tl_X5_chain_75 ++ tr_X5_chain_75
def tl_X5_chain_73 : List tCut := tfU 48 108 (fun x => (103, [(6, tI x x), (0, tR 5), (1, tI 0 7), (2, tR 43), (3, tI 0 60), (4, tI 6 6), (5, tR 43)], 8, 2048))
def tr_X5_chain_73 : List tCut := tl_X5_chain_74 ++ tr_X5_chain_74
def tl_X5_chain_72 : List tCut := tfU 48 60 (fun x => (103, [(6, tI x x), (0, tR 5), (1, tI 0 7), (2, tR 43), (3, tI 0 60), (4, tI 6 6), (5, tR 43)], 8, 2048))
def tr_X5_chain_72 : List tCut := tl_X5_chain_73 ++ tr_X5_chain_73
def tl_X5_chain_71 : List tCut := tfU 48 12 (fun x => (103, [(6, tI x x), (0, tR 5), (1, tI 0 7), (2, tR 43), (3, tI 0 60), (4, tI 6 6), (5, tR 43)], 8, 2048))
def tr_X5_chain_71 : List tCut := tl_X5_chain_72 ++ tr_X5_chain_72
def tl_X5_chain_70 : List tCut := tfU 36 221 (fun x => (65, [(6, tI x x), (0, tR 5), (1, tI 0 7), (2, tR 43), (3, tI 0 60), (4, tI 6 6), (5, tR 43)], 8, 2048)) ++ (tfU 12 0 (fun x => (103, [(6, tI x x), (0, tR 5), (1, tI 0 7), (2, tR 43), (3, tI 0 60), (4, tI 6 6), (5, tR 43)], 8, 2048)))
def tr_X5_chain_70 : List tCut := tl_X5_chain_71 ++ tr_X5_chain_71
def tl_X5_chain_69 : List tCut := tfU 48 173 (fun x => (65, [(6, tI x x), (0, tR 5), (1, tI 0 7), (2, tR 43), (3, tI 0 60), (4, tI 6 6), (5, tR 43)], 8, 2048))
def tr_X5_chain_69 : List tCut := tl_X5_chain_70 ++ tr_X5_chain_70
def tl_X5_chain_68 : List tCut := tfU 48 125 (fun x => (65, [(6, tI x x), (0, tR 5), (1, tI 0 7), (2, tR 43), (3, tI 0 60), (4, tI 6 6), (5, tR 43)], 8, 2048))
def tr_X5_chain_68 : List tCut := tl_X5_chain_69 ++ tr_X5_chain_69
def tl_X5_chain_67 : List tCut := tfU 48 77 (fun x => (65, [(6, tI x x), (0, tR 5), (1, tI 0 7), (2, tR 43), (3, tI 0 60), (4, tI 6 6), (5, tR 43)], 8, 2048))
def tr_X5_chain_67 : List tCut := tl_X5_chain_68 ++ tr_X5_chain_68
def tl_X5_chain_66 : List tCut := tfU 48 29 (fun x => (65, [(6, tI x x), (0, tR 5), (1, tI 0 7), (2, tR 43), (3, tI 0 60), (4, tI 6 6), (5, tR 43)], 8, 2048))
def tr_X5_chain_66 : List tCut := tl_X5_chain_67 ++ tr_X5_chain_67
def tl_X5_chain_65 : List tCut := tfU 18 239 (fun x => (103, [(6, tI x x), (0, tR 5), (1, tI 0 7), (2, tR 43), (3, tI 0 60), (4, tI 5 5), (5, tR 43)], 7, 1792)) ++ ([(48, [(0, tR 5), (1, tI 0 7), (2, tR 43), (3, tI 0 60), (4, tI 6 6), (5, tR 43), (6, tI 256 256)], 7, 1792)] ++ (tfU 29 0 (fun x => (65, [(6, tI x x), (0, tR 5), (1, tI 0 7), (2, tR 43), (3, tI 0 60), (4, tI 6 6), (5, tR 43)], 8, 2048))))
def tr_X5_chain_65 : List tCut := tl_X5_chain_66 ++ tr_X5_chain_66
def tl_X5_chain_64 : List tCut := tfU 48 191 (fun x => (103, [(6, tI x x), (0, tR 5), (1, tI 0 7), (2, tR 43), (3, tI 0 60), (4, tI 5 5), (5, tR 43)], 7, 1792))
def tr_X5_chain_64 : List tCut := tl_X5_chain_65 ++ tr_X5_chain_65
def tl_X5_chain_63 : List tCut := tfU 48 143 (fun x => (103, [(6, tI x x), (0, tR 5), (1, tI 0 7), (2, tR 43), (3, tI 0 60), (4, tI 5 5), (5, tR 43)], 7, 1792))
def tr_X5_chain_63 : List tCut := tl_X5_chain_64 ++ tr_X5_chain_64
def tl_X5_chain_62 : List tCut := tfU 48 95 (fun x => (103, [(6, tI x x), (0, tR 5), (1, tI 0 7), (2, tR 43), (3, tI 0 60), (4, tI 5 5), (5, tR 43)], 7, 1792))
def tr_X5_chain_62 : List tCut := tl_X5_chain_63 ++ tr_X5_chain_63
def tl_X5_chain_61 : List tCut := tfU 48 47 (fun x => (103, [(6, tI x x), (0, tR 5), (1, tI 0 7), (2, tR 43), (3, tI 0 60), (4, tI 5 5), (5, tR 43)], 7, 1792))
def tr_X5_chain_61 : List tCut := tl_X5_chain_62 ++ tr_X5_chain_62
def tl_X5_chain_60 : List tCut := [(65, [(0, tR 5), (1, tI 0 7), (2, tR 43), (3, tI 0 60), (4, tI 5 5), (5, tR 43), (6, tI 256 256)], 7, 1792)] ++ (tfU 47 0 (fun x => (103, [(6, tI x x), (0, tR 5), (1, tI 0 7), (2, tR 43), (3, tI 0 60), (4, tI 5 5), (5, tR 43)], 7, 1792)))
def tr_X5_chain_60 : List tCut := tl_X5_chain_61 ++ tr_X5_chain_61
def tl_X5_chain_59 : List tCut := tfU 48 208 (fun x => (65, [(6, tI x x), (0, tR 5), (1, tI 0 7), (2, tR 43), (3, tI 0 60), (4, tI 5 5), (5, tR 43)], 7, 1792))
def tr_X5_chain_59 : List tCut := tl_X5_chain_60 ++ tr_X5_chain_60
def tl_X5_chain_58 : List tCut := tfU 48 160 (fun x => (65, [(6, tI x x), (0, tR 5), (1, tI 0 7), (2, tR 43), (3, tI 0 60), (4, tI 5 5), (5, tR 43)], 7, 1792))
def tr_X5_chain_58 : List tCut := tl_X5_chain_59 ++ tr_X5_chain_59
def tl_X5_chain_57 : List tCut := tfU 48 112 (fun x => (65, [(6, tI x x), (0, tR 5), (1, tI 0 7), (2, tR 43), (3, tI 0 60), (4, tI 5 5), (5, tR 43)], 7, 1792))
def tr_X5_chain_57 : List tCut := tl_X5_chain_58 ++ tr_X5_chain_58
def tl_X5_chain_56 : List tCut := tfU 48 64 (fun x => (65, [(6, tI x x), (0, tR 5), (1, tI 0 7), (2, tR 43), (3, tI 0 60), (4, tI 5 5), (5, tR 43)], 7, 1792))
def tr_X5_chain_56 : List tCut := tl_X5_chain_57 ++ tr_X5_chain_57
def tl_X5_chain_55 : List tCut := tfU 48 16 (fun x => (65, [(6, tI x x), (0, tR 5), (1, tI 0 7), (2, tR 43), (3, tI 0 60), (4, tI 5 5), (5, tR 43)], 7, 1792))
def tr_X5_chain_55 : List tCut := tl_X5_chain_56 ++ tr_X5_chain_56
def tl_X5_chain_54 : List tCut := tfU 31 226 (fun x => (103, [(6, tI x x), (0, tR 5), (1, tI 0 7), (2, tR 43), (3, tI 0 60), (4, tI 4 4), (5, tR 43)], 6, 1536)) ++ ([(48, [(0, tR 5), (1, tI 0 7), (2, tR 43), (3, tI 0 60), (4, tI 5 5), (5, tR 43), (6, tI 256 256)], 6, 1536)] ++ (tfU 16 0 (fun x => (65, [(6, tI x x), (0, tR 5), (1, tI 0 7), (2, tR 43), (3, tI 0 60), (4, tI 5 5), (5, tR 43)], 7, 1792))))
def tr_X5_chain_54 : List tCut := tl_X5_chain_55 ++ tr_X5_chain_55
def tl_X5_chain_53 : List tCut := tfU 48 178 (fun x => (103, [(6, tI x x), (0, tR 5), (1, tI 0 7), (2, tR 43), (3, tI 0 60), (4, tI 4 4), (5, tR 43)], 6, 1536))
def tr_X5_chain_53 : List tCut := tl_X5_chain_54 ++ tr_X5_chain_54
def tl_X5_chain_52 : List tCut := tfU 48 130 (fun x => (103, [(6, tI x x), (0, tR 5), (1, tI 0 7), (2, tR 43), (3, tI 0 60), (4, tI 4 4), (5, tR 43)], 6, 1536))
def tr_X5_chain_52 : List tCut := tl_X5_chain_53 ++ tr_X5_chain_53
def tl_X5_chain_51 : List tCut := tfU 48 82 (fun x => (103, [(6, tI x x), (0, tR 5), (1, tI 0 7), (2, tR 43), (3, tI 0 60), (4, tI 4 4), (5, tR 43)], 6, 1536))
def tr_X5_chain_51 : List tCut := tl_X5_chain_52 ++ tr_X5_chain_52
def tl_X5_chain_50 : List tCut := tfU 48 34 (fun x => (103, [(6, tI x x), (0, tR 5), (1, tI 0 7), (2, tR 43), (3, tI 0 60), (4, tI 4 4), (5, tR 43)], 6, 1536))
def tr_X5_chain_50 : List tCut := tl_X5_chain_51 ++ tr_X5_chain_51
def tl_X5_chain_49 : List tCut := tfU 14 243 (fun x => (65, [(6, tI x x), (0, tR 5), (1, tI 0 7), (2, tR 43), (3, tI 0 60), (4, tI 4 4), (5, tR 43)], 6, 1536)) ++ (tfU 34 0 (fun x => (103, [(6, tI x x), (0, tR 5), (1, tI 0 7), (2, tR 43), (3, tI 0 60), (4, tI 4 4), (5, tR 43)], 6, 1536)))
def tr_X5_chain_49 : List tCut := tl_X5_chain_50 ++ tr_X5_chain_50
def tl_X5_chain_48 : List tCut := tfU 48 195 (fun x => (65, [(6, tI x x), (0, tR 5), (1, tI 0 7), (2, tR 43), (3, tI 0 60), (4, tI 4 4), (5, tR 43)], 6, 1536))
def tr_X5_chain_48 : List tCut := tl_X5_chain_49 ++ tr_X5_chain_49
def tl_X5_chain_47 : List tCut := tfU 48 147 (fun x => (65, [(6, tI x x), (0, tR 5), (1, tI 0 7), (2, tR 43), (3, tI 0 60), (4, tI 4 4), (5, tR 43)], 6, 1536))
def tr_X5_chain_47 : List tCut := tl_X5_chain_48 ++ tr_X5_chain_48
def tl_X5_chain_46 : List tCut := tfU 48 99 (fun x => (65, [(6, tI x x), (0, tR 5), (1, tI 0 7), (2, tR 43), (3, tI 0 60), (4, tI 4 4), (5, tR 43)], 6, 1536))
def tr_X5_chain_46 : List tCut := tl_X5_chain_47 ++ tr_X5_chain_47
def tl_X5_chain_45 : List tCut := tfU 48 51 (fun x => (65, [(6, tI x x), (0, tR 5), (1, tI 0 7), (2, tR 43), (3, tI 0 60), (4, tI 4 4), (5, tR 43)], 6, 1536))
def tr_X5_chain_45 : List tCut := tl_X5_chain_46 ++ tr_X5_chain_46
def tl_X5_chain_44 : List tCut := tfU 48 3 (fun x => (65, [(6, tI x x), (0, tR 5), (1, tI 0 7), (2, tR 43), (3, tI 0 60), (4, tI 4 4), (5, tR 43)], 6, 1536))
def tr_X5_chain_44 : List tCut := tl_X5_chain_45 ++ tr_X5_chain_45
def tl_X5_chain_43 : List tCut := tfU 44 213 (fun x => (103, [(6, tI x x), (0, tR 5), (1, tI 0 7), (2, tR 43), (3, tI 0 60), (4, tI 3 3), (5, tR 43)], 5, 1280)) ++ ([(48, [(0, tR 5), (1, tI 0 7), (2, tR 43), (3, tI 0 60), (4, tI 4 4), (5, tR 43), (6, tI 256 256)], 5, 1280)] ++ (tfU 3 0 (fun x => (65, [(6, tI x x), (0, tR 5), (1, tI 0 7), (2, tR 43), (3, tI 0 60), (4, tI 4 4), (5, tR 43)], 6, 1536))))
def tr_X5_chain_43 : List tCut := tl_X5_chain_44 ++ tr_X5_chain_44
def tl_X5_chain_42 : List tCut := tfU 48 165 (fun x => (103, [(6, tI x x), (0, tR 5), (1, tI 0 7), (2, tR 43), (3, tI 0 60), (4, tI 3 3), (5, tR 43)], 5, 1280))
def tr_X5_chain_42 : List tCut := tl_X5_chain_43 ++ tr_X5_chain_43
def tl_X5_chain_41 : List tCut := tfU 48 117 (fun x => (103, [(6, tI x x), (0, tR 5), (1, tI 0 7), (2, tR 43), (3, tI 0 60), (4, tI 3 3), (5, tR 43)], 5, 1280))
def tr_X5_chain_41 : List tCut := tl_X5_chain_42 ++ tr_X5_chain_42
def tl_X5_chain_40 : List tCut := tfU 48 69 (fun x => (103, [(6, tI x x), (0, tR 5), (1, tI 0 7), (2, tR 43), (3, tI 0 60), (4, tI 3 3), (5, tR 43)], 5, 1280))
def tr_X5_chain_40 : List tCut := tl_X5_chain_41 ++ tr_X5_chain_41
def tl_X5_chain_39 : List tCut := tfU 48 21 (fun x => (103, [(6, tI x x), (0, tR 5), (1, tI 0 7), (2, tR 43), (3, tI 0 60), (4, tI 3 3), (5, tR 43)], 5, 1280))
def tr_X5_chain_39 : List tCut := tl_X5_chain_40 ++ tr_X5_chain_40
def tl_X5_chain_38 : List tCut := tfU 27 230 (fun x => (65, [(6, tI x x), (0, tR 5), (1, tI 0 7), (2, tR 43), (3, tI 0 60), (4, tI 3 3), (5, tR 43)], 5, 1280)) ++ (tfU 21 0 (fun x => (103, [(6, tI x x), (0, tR 5), (1, tI 0 7), (2, tR 43), (3, tI 0 60), (4, tI 3 3), (5, tR 43)], 5, 1280)))
def tr_X5_chain_38 : List tCut := tl_X5_chain_39 ++ tr_X5_chain_39
def tl_X5_chain_37 : List tCut := tfU 48 182 (fun x => (65, [(6, tI x x), (0, tR 5), (1, tI 0 7), (2, tR 43), (3, tI 0 60), (4, tI 3 3), (5, tR 43)], 5, 1280))
def tr_X5_chain_37 : List tCut := tl_X5_chain_38 ++ tr_X5_chain_38
def tl_X5_chain_36 : List tCut := tfU 48 134 (fun x => (65, [(6, tI x x), (0, tR 5), (1, tI 0 7), (2, tR 43), (3, tI 0 60), (4, tI 3 3), (5, tR 43)], 5, 1280))
def tr_X5_chain_36 : List tCut := tl_X5_chain_37 ++ tr_X5_chain_37
def tl_X5_chain_35 : List tCut := tfU 48 86 (fun x => (65, [(6, tI x x), (0, tR 5), (1, tI 0 7), (2, tR 43), (3, tI 0 60), (4, tI 3 3), (5, tR 43)], 5, 1280))
def tr_X5_chain_35 : List tCut := tl_X5_chain_36 ++ tr_X5_chain_36
def tl_X5_chain_34 : List tCut := tfU 48 38 (fun x => (65, [(6, tI x x), (0, tR 5), (1, tI 0 7), (2, tR 43), (3, tI 0 60), (4, tI 3 3), (5, tR 43)], 5, 1280))
def tr_X5_chain_34 : List tCut := tl_X5_chain_35 ++ tr_X5_chain_35
def tl_X5_chain_33 : List tCut := tfU 9 248 (fun x => (103, [(6, tI x x), (0, tR 5), (1, tI 0 7), (2, tR 43), (3, tI 0 60), (4, tI 2 2), (5, tR 43)], 4, 1024)) ++ ([(48, [(0, tR 5), (1, tI 0 7), (2, tR 43), (3, tI 0 60), (4, tI 3 3), (5, tR 43), (6, tI 256 256)], 4, 1024)] ++ (tfU 38 0 (fun x => (65, [(6, tI x x), (0, tR 5), (1, tI 0 7), (2, tR 43), (3, tI 0 60), (4, tI 3 3), (5, tR 43)], 5, 1280))))
def tr_X5_chain_33 : List tCut := tl_X5_chain_34 ++ tr_X5_chain_34
def tl_X5_chain_32 : List tCut := tfU 48 200 (fun x => (103, [(6, tI x x), (0, tR 5), (1, tI 0 7), (2, tR 43), (3, tI 0 60), (4, tI 2 2), (5, tR 43)], 4, 1024))
def tr_X5_chain_32 : List tCut := tl_X5_chain_33 ++ tr_X5_chain_33
def tl_X5_chain_31 : List tCut := tfU 48 152 (fun x => (103, [(6, tI x x), (0, tR 5), (1, tI 0 7), (2, tR 43), (3, tI 0 60), (4, tI 2 2), (5, tR 43)], 4, 1024))
def tr_X5_chain_31 : List tCut := tl_X5_chain_32 ++ tr_X5_chain_32
def tl_X5_chain_30 : List tCut := tfU 48 104 (fun x => (103, [(6, tI x x), (0, tR 5), (1, tI 0 7), (2, tR 43), (3, tI 0 60), (4, tI 2 2), (5, tR 43)], 4, 1024))
def tr_X5_chain_30 : List tCut := tl_X5_chain_31 ++ tr_X5_chain_31
def tl_X5_chain_29 : List tCut := tfU 48 56 (fun x => (103, [(6, tI x x), (0, tR 5), (1, tI 0 7), (2, tR 43), (3, tI 0 60), (4, tI 2 2), (5, tR 43)], 4, 1024))
def tr_X5_chain_29 : List tCut := tl_X5_chain_30 ++ tr_X5_chain_30
def tl_X5_chain_28 : List tCut := tfU 48 8 (fun x => (103, [(6, tI x x), (0, tR 5), (1, tI 0 7), (2, tR 43), (3, tI 0 60), (4, tI 2 2), (5, tR 43)], 4, 1024))
def tr_X5_chain_28 : List tCut := tl_X5_chain_29 ++ tr_X5_chain_29
def tl_X5_chain_27 : List tCut := tfU 40 217 (fun x => (65, [(6, tI x x), (0, tR 5), (1, tI 0 7), (2, tR 43), (3, tI 0 60), (4, tI 2 2), (5, tR 43)], 4, 1024)) ++ (tfU 8 0 (fun x => (103, [(6, tI x x), (0, tR 5), (1, tI 0 7), (2, tR 43), (3, tI 0 60), (4, tI 2 2), (5, tR 43)], 4, 1024)))
def tr_X5_chain_27 : List tCut := tl_X5_chain_28 ++ tr_X5_chain_28
def tl_X5_chain_26 : List tCut := tfU 48 169 (fun x => (65, [(6, tI x x), (0, tR 5), (1, tI 0 7), (2, tR 43), (3, tI 0 60), (4, tI 2 2), (5, tR 43)], 4, 1024))
def tr_X5_chain_26 : List tCut := tl_X5_chain_27 ++ tr_X5_chain_27
def tl_X5_chain_25 : List tCut := tfU 48 121 (fun x => (65, [(6, tI x x), (0, tR 5), (1, tI 0 7), (2, tR 43), (3, tI 0 60), (4, tI 2 2), (5, tR 43)], 4, 1024))
def tr_X5_chain_25 : List tCut := tl_X5_chain_26 ++ tr_X5_chain_26
def tl_X5_chain_24 : List tCut := tfU 48 73 (fun x => (65, [(6, tI x x), (0, tR 5), (1, tI 0 7), (2, tR 43), (3, tI 0 60), (4, tI 2 2), (5, tR 43)], 4, 1024))
def tr_X5_chain_24 : List tCut := tl_X5_chain_25 ++ tr_X5_chain_25
def tl_X5_chain_23 : List tCut := tfU 48 25 (fun x => (65, [(6, tI x x), (0, tR 5), (1, tI 0 7), (2, tR 43), (3, tI 0 60), (4, tI 2 2), (5, tR 43)], 4, 1024))
def tr_X5_chain_23 : List tCut := tl_X5_chain_24 ++ tr_X5_chain_24
def tl_X5_chain_22 : List tCut := tfU 22 235 (fun x => (103, [(6, tI x x), (0, tR 5), (1, tI 0 7), (2, tR 43), (3, tI 0 60), (4, tI 1 1), (5, tR 43)], 3, 768)) ++ ([(48, [(0, tR 5), (1, tI 0 7), (2, tR 43), (3, tI 0 60), (4, tI 2 2), (5, tR 43), (6, tI 256 256)], 3, 768)] ++ (tfU 25 0 (fun x => (65, [(6, tI x x), (0, tR 5), (1, tI 0 7), (2, tR 43), (3, tI 0 60), (4, tI 2 2), (5, tR 43)], 4, 1024))))
def tr_X5_chain_22 : List tCut := tl_X5_chain_23 ++ tr_X5_chain_23
def tl_X5_chain_21 : List tCut := tfU 48 187 (fun x => (103, [(6, tI x x), (0, tR 5), (1, tI 0 7), (2, tR 43), (3, tI 0 60), (4, tI 1 1), (5, tR 43)], 3, 768))
def tr_X5_chain_21 : List tCut := tl_X5_chain_22 ++ tr_X5_chain_22
def tl_X5_chain_20 : List tCut := tfU 48 139 (fun x => (103, [(6, tI x x), (0, tR 5), (1, tI 0 7), (2, tR 43), (3, tI 0 60), (4, tI 1 1), (5, tR 43)], 3, 768))
def tr_X5_chain_20 : List tCut := tl_X5_chain_21 ++ tr_X5_chain_21
def tl_X5_chain_19 : List tCut := tfU 48 91 (fun x => (103, [(6, tI x x), (0, tR 5), (1, tI 0 7), (2, tR 43), (3, tI 0 60), (4, tI 1 1), (5, tR 43)], 3, 768))
def tr_X5_chain_19 : List tCut := tl_X5_chain_20 ++ tr_X5_chain_20
def tl_X5_chain_18 : List tCut := tfU 48 43 (fun x => (103, [(6, tI x x), (0, tR 5), (1, tI 0 7), (2, tR 43), (3, tI 0 60), (4, tI 1 1), (5, tR 43)], 3, 768))
def tr_X5_chain_18 : List tCut := tl_X5_chain_19 ++ tr_X5_chain_19
def tl_X5_chain_17 : List tCut := tfU 5 252 (fun x => (65, [(6, tI x x), (0, tR 5), (1, tI 0 7), (2, tR 43), (3, tI 0 60), (4, tI 1 1), (5, tR 43)], 3, 768)) ++ (tfU 43 0 (fun x => (103, [(6, tI x x), (0, tR 5), (1, tI 0 7), (2, tR 43), (3, tI 0 60), (4, tI 1 1), (5, tR 43)], 3, 768)))
def tr_X5_chain_17 : List tCut := tl_X5_chain_18 ++ tr_X5_chain_18
def tl_X5_chain_16 : List tCut := tfU 48 204 (fun x => (65, [(6, tI x x), (0, tR 5), (1, tI 0 7), (2, tR 43), (3, tI 0 60), (4, tI 1 1), (5, tR 43)], 3, 768))
def tr_X5_chain_16 : List tCut := tl_X5_chain_17 ++ tr_X5_chain_17
def tl_X5_chain_15 : List tCut := tfU 48 156 (fun x => (65, [(6, tI x x), (0, tR 5), (1, tI 0 7), (2, tR 43), (3, tI 0 60), (4, tI 1 1), (5, tR 43)], 3, 768))
def tr_X5_chain_15 : List tCut := tl_X5_chain_16 ++ tr_X5_chain_16
def tl_X5_chain_14 : List tCut := tfU 48 108 (fun x => (65, [(6, tI x x), (0, tR 5), (1, tI 0 7), (2, tR 43), (3, tI 0 60), (4, tI 1 1), (5, tR 43)], 3, 768))
def tr_X5_chain_14 : List tCut := tl_X5_chain_15 ++ tr_X5_chain_15
def tl_X5_chain_13 : List tCut := tfU 48 60 (fun x => (65, [(6, tI x x), (0, tR 5), (1, tI 0 7), (2, tR 43), (3, tI 0 60), (4, tI 1 1), (5, tR 43)], 3, 768))
def tr_X5_chain_13 : List tCut := tl_X5_chain_14 ++ tr_X5_chain_14
def tl_X5_chain_12 : List tCut := tfU 48 12 (fun x => (65, [(6, tI x x), (0, tR 5), (1, tI 0 7), (2, tR 43), (3, tI 0 60), (4, tI 1 1), (5, tR 43)], 3, 768))
def tr_X5_chain_12 : List tCut := tl_X5_chain_13 ++ tr_X5_chain_13
def tl_X5_chain_11 : List tCut := tfU 35 222 (fun x => (103, [(6, tI x x), (0, tR 5), (1, tI 0 7), (2, tR 43), (3, tI 0 60), (4, tI 0 0), (5, tR 43)], 2, 512)) ++ ([(48, [(0, tR 5), (1, tI 0 7), (2, tR 43), (3, tI 0 60), (4, tI 1 1), (5, tR 43), (6, tI 256 256)], 2, 512)] ++ (tfU 12 0 (fun x => (65, [(6, tI x x), (0, tR 5), (1, tI 0 7), (2, tR 43), (3, tI 0 60), (4, tI 1 1), (5, tR 43)], 3, 768))))
def tr_X5_chain_11 : List tCut := tl_X5_chain_12 ++ tr_X5_chain_12
def tl_X5_chain_10 : List tCut := tfU 48 174 (fun x => (103, [(6, tI x x), (0, tR 5), (1, tI 0 7), (2, tR 43), (3, tI 0 60), (4, tI 0 0), (5, tR 43)], 2, 512))
def tr_X5_chain_10 : List tCut := tl_X5_chain_11 ++ tr_X5_chain_11
def tl_X5_chain_9 : List tCut := tfU 48 126 (fun x => (103, [(6, tI x x), (0, tR 5), (1, tI 0 7), (2, tR 43), (3, tI 0 60), (4, tI 0 0), (5, tR 43)], 2, 512))
def tr_X5_chain_9 : List tCut := tl_X5_chain_10 ++ tr_X5_chain_10
def tl_X5_chain_8 : List tCut := tfU 48 78 (fun x => (103, [(6, tI x x), (0, tR 5), (1, tI 0 7), (2, tR 43), (3, tI 0 60), (4, tI 0 0), (5, tR 43)], 2, 512))
def tr_X5_chain_8 : List tCut := tl_X5_chain_9 ++ tr_X5_chain_9
def tl_X5_chain_7 : List tCut := tfU 48 30 (fun x => (103, [(6, tI x x), (0, tR 5), (1, tI 0 7), (2, tR 43), (3, tI 0 60), (4, tI 0 0), (5, tR 43)], 2, 512))
def tr_X5_chain_7 : List tCut := tl_X5_chain_8 ++ tr_X5_chain_8
def tl_X5_chain_6 : List tCut := tfU 18 239 (fun x => (65, [(6, tI x x), (0, tR 5), (1, tI 0 7), (2, tR 43), (3, tI 0 60), (4, tI 0 0), (5, tR 43)], 2, 512)) ++ (tfU 30 0 (fun x => (103, [(6, tI x x), (0, tR 5), (1, tI 0 7), (2, tR 43), (3, tI 0 60), (4, tI 0 0), (5, tR 43)], 2, 512)))
def tr_X5_chain_6 : List tCut := tl_X5_chain_7 ++ tr_X5_chain_7
def tl_X5_chain_5 : List tCut := tfU 48 191 (fun x => (65, [(6, tI x x), (0, tR 5), (1, tI 0 7), (2, tR 43), (3, tI 0 60), (4, tI 0 0), (5, tR 43)], 2, 512))
def tr_X5_chain_5 : List tCut := tl_X5_chain_6 ++ tr_X5_chain_6
def tl_X5_chain_4 : List tCut := tfU 48 143 (fun x => (65, [(6, tI x x), (0, tR 5), (1, tI 0 7), (2, tR 43), (3, tI 0 60), (4, tI 0 0), (5, tR 43)], 2, 512))
def tr_X5_chain_4 : List tCut := tl_X5_chain_5 ++ tr_X5_chain_5
def tl_X5_chain_3 : List tCut := tfU 48 95 (fun x => (65, [(6, tI x x), (0, tR 5), (1, tI 0 7), (2, tR 43), (3, tI 0 60), (4, tI 0 0), (5, tR 43)], 2, 512))
def tr_X5_chain_3 : List tCut := tl_X5_chain_4 ++ tr_X5_chain_4
def tl_X5_chain_2 : List tCut := tfU 48 47 (fun x => (65, [(6, tI x x), (0, tR 5), (1, tI 0 7), (2, tR 43), (3, tI 0 60), (4, tI 0 0), (5, tR 43)], 2, 512))
def tr_X5_chain_2 : List tCut := tl_X5_chain_3 ++ tr_X5_chain_3
def tl_X5_chain_1 : List tCut := [(48, [(0, tR 5), (1, tI 0 7), (2, tR 43), (3, tI 0 60), (4, tI 0 0)], 1, 256)] ++ (tfU 47 0 (fun x => (65, [(6, tI x x), (0, tR 5), (1, tI 0 7), (2, tR 43), (3, tI 0 60), (4, tI 0 0), (5, tR 43)], 2, 512)))
def tr_X5_chain_1 : List tCut := tl_X5_chain_2 ++ tr_X5_chain_2
def tl_X5_chain_0 : List tCut := [(0, tinit 0 te_X5_chain_0.1, 0, 0)]
def tr_X5_chain_0 : List tCut := tl_X5_chain_1 ++ tr_X5_chain_1
set_option maxRecDepth 100000 in
theorem tc_X5_chain_129 : tchk2 zty 43 zprog zsm zhts [] 3 ze_X5_chain te_X5_chain_0 [48, 65, 103] tsp_X5_chain 25 tl_X5_chain_129 tr_X5_chain_129 = true := by decide +kernel
theorem ts_X5_chain_129 : tchk zty 43 zprog zsm zhts [] 3 ze_X5_chain te_X5_chain_0 [48, 65, 103] tsp_X5_chain 25 (tl_X5_chain_129 ++ tr_X5_chain_129) = true := tchk_app tc_X5_chain_129 rfl
set_option maxRecDepth 100000 in
theorem tc_X5_chain_128 : tchk2 zty 43 zprog zsm zhts [] 3 ze_X5_chain te_X5_chain_0 [48, 65, 103] tsp_X5_chain 25 tl_X5_chain_128 tr_X5_chain_128 = true := by decide +kernel
theorem ts_X5_chain_128 : tchk zty 43 zprog zsm zhts [] 3 ze_X5_chain te_X5_chain_0 [48, 65, 103] tsp_X5_chain 25 (tl_X5_chain_128 ++ tr_X5_chain_128) = true := tchk_app tc_X5_chain_128 ts_X5_chain_129
set_option maxRecDepth 100000 in
theorem tc_X5_chain_127 : tchk2 zty 43 zprog zsm zhts [] 3 ze_X5_chain te_X5_chain_0 [48, 65, 103] tsp_X5_chain 25 tl_X5_chain_127 tr_X5_chain_127 = true := by decide +kernel
theorem ts_X5_chain_127 : tchk zty 43 zprog zsm zhts [] 3 ze_X5_chain te_X5_chain_0 [48, 65, 103] tsp_X5_chain 25 (tl_X5_chain_127 ++ tr_X5_chain_127) = true := tchk_app tc_X5_chain_127 ts_X5_chain_128
set_option maxRecDepth 100000 in
theorem tc_X5_chain_126 : tchk2 zty 43 zprog zsm zhts [] 3 ze_X5_chain te_X5_chain_0 [48, 65, 103] tsp_X5_chain 25 tl_X5_chain_126 tr_X5_chain_126 = true := by decide +kernel
theorem ts_X5_chain_126 : tchk zty 43 zprog zsm zhts [] 3 ze_X5_chain te_X5_chain_0 [48, 65, 103] tsp_X5_chain 25 (tl_X5_chain_126 ++ tr_X5_chain_126) = true := tchk_app tc_X5_chain_126 ts_X5_chain_127
set_option maxRecDepth 100000 in
theorem tc_X5_chain_125 : tchk2 zty 43 zprog zsm zhts [] 3 ze_X5_chain te_X5_chain_0 [48, 65, 103] tsp_X5_chain 25 tl_X5_chain_125 tr_X5_chain_125 = true := by decide +kernel
theorem ts_X5_chain_125 : tchk zty 43 zprog zsm zhts [] 3 ze_X5_chain te_X5_chain_0 [48, 65, 103] tsp_X5_chain 25 (tl_X5_chain_125 ++ tr_X5_chain_125) = true := tchk_app tc_X5_chain_125 ts_X5_chain_126
set_option maxRecDepth 100000 in
theorem tc_X5_chain_124 : tchk2 zty 43 zprog zsm zhts [] 3 ze_X5_chain te_X5_chain_0 [48, 65, 103] tsp_X5_chain 25 tl_X5_chain_124 tr_X5_chain_124 = true := by decide +kernel
theorem ts_X5_chain_124 : tchk zty 43 zprog zsm zhts [] 3 ze_X5_chain te_X5_chain_0 [48, 65, 103] tsp_X5_chain 25 (tl_X5_chain_124 ++ tr_X5_chain_124) = true := tchk_app tc_X5_chain_124 ts_X5_chain_125
set_option maxRecDepth 100000 in
theorem tc_X5_chain_123 : tchk2 zty 43 zprog zsm zhts [] 3 ze_X5_chain te_X5_chain_0 [48, 65, 103] tsp_X5_chain 25 tl_X5_chain_123 tr_X5_chain_123 = true := by decide +kernel
theorem ts_X5_chain_123 : tchk zty 43 zprog zsm zhts [] 3 ze_X5_chain te_X5_chain_0 [48, 65, 103] tsp_X5_chain 25 (tl_X5_chain_123 ++ tr_X5_chain_123) = true := tchk_app tc_X5_chain_123 ts_X5_chain_124
set_option maxRecDepth 100000 in
theorem tc_X5_chain_122 : tchk2 zty 43 zprog zsm zhts [] 3 ze_X5_chain te_X5_chain_0 [48, 65, 103] tsp_X5_chain 25 tl_X5_chain_122 tr_X5_chain_122 = true := by decide +kernel
theorem ts_X5_chain_122 : tchk zty 43 zprog zsm zhts [] 3 ze_X5_chain te_X5_chain_0 [48, 65, 103] tsp_X5_chain 25 (tl_X5_chain_122 ++ tr_X5_chain_122) = true := tchk_app tc_X5_chain_122 ts_X5_chain_123
set_option maxRecDepth 100000 in
theorem tc_X5_chain_121 : tchk2 zty 43 zprog zsm zhts [] 3 ze_X5_chain te_X5_chain_0 [48, 65, 103] tsp_X5_chain 25 tl_X5_chain_121 tr_X5_chain_121 = true := by decide +kernel
theorem ts_X5_chain_121 : tchk zty 43 zprog zsm zhts [] 3 ze_X5_chain te_X5_chain_0 [48, 65, 103] tsp_X5_chain 25 (tl_X5_chain_121 ++ tr_X5_chain_121) = true := tchk_app tc_X5_chain_121 ts_X5_chain_122
set_option maxRecDepth 100000 in
theorem tc_X5_chain_120 : tchk2 zty 43 zprog zsm zhts [] 3 ze_X5_chain te_X5_chain_0 [48, 65, 103] tsp_X5_chain 25 tl_X5_chain_120 tr_X5_chain_120 = true := by decide +kernel
theorem ts_X5_chain_120 : tchk zty 43 zprog zsm zhts [] 3 ze_X5_chain te_X5_chain_0 [48, 65, 103] tsp_X5_chain 25 (tl_X5_chain_120 ++ tr_X5_chain_120) = true := tchk_app tc_X5_chain_120 ts_X5_chain_121
set_option maxRecDepth 100000 in
theorem tc_X5_chain_119 : tchk2 zty 43 zprog zsm zhts [] 3 ze_X5_chain te_X5_chain_0 [48, 65, 103] tsp_X5_chain 25 tl_X5_chain_119 tr_X5_chain_119 = true := by decide +kernel
theorem ts_X5_chain_119 : tchk zty 43 zprog zsm zhts [] 3 ze_X5_chain te_X5_chain_0 [48, 65, 103] tsp_X5_chain 25 (tl_X5_chain_119 ++ tr_X5_chain_119) = true := tchk_app tc_X5_chain_119 ts_X5_chain_120
set_option maxRecDepth 100000 in
theorem tc_X5_chain_118 : tchk2 zty 43 zprog zsm zhts [] 3 ze_X5_chain te_X5_chain_0 [48, 65, 103] tsp_X5_chain 25 tl_X5_chain_118 tr_X5_chain_118 = true := by decide +kernel
theorem ts_X5_chain_118 : tchk zty 43 zprog zsm zhts [] 3 ze_X5_chain te_X5_chain_0 [48, 65, 103] tsp_X5_chain 25 (tl_X5_chain_118 ++ tr_X5_chain_118) = true := tchk_app tc_X5_chain_118 ts_X5_chain_119
set_option maxRecDepth 100000 in
theorem tc_X5_chain_117 : tchk2 zty 43 zprog zsm zhts [] 3 ze_X5_chain te_X5_chain_0 [48, 65, 103] tsp_X5_chain 25 tl_X5_chain_117 tr_X5_chain_117 = true := by decide +kernel
theorem ts_X5_chain_117 : tchk zty 43 zprog zsm zhts [] 3 ze_X5_chain te_X5_chain_0 [48, 65, 103] tsp_X5_chain 25 (tl_X5_chain_117 ++ tr_X5_chain_117) = true := tchk_app tc_X5_chain_117 ts_X5_chain_118
set_option maxRecDepth 100000 in
theorem tc_X5_chain_116 : tchk2 zty 43 zprog zsm zhts [] 3 ze_X5_chain te_X5_chain_0 [48, 65, 103] tsp_X5_chain 25 tl_X5_chain_116 tr_X5_chain_116 = true := by decide +kernel
theorem ts_X5_chain_116 : tchk zty 43 zprog zsm zhts [] 3 ze_X5_chain te_X5_chain_0 [48, 65, 103] tsp_X5_chain 25 (tl_X5_chain_116 ++ tr_X5_chain_116) = true := tchk_app tc_X5_chain_116 ts_X5_chain_117
set_option maxRecDepth 100000 in
theorem tc_X5_chain_115 : tchk2 zty 43 zprog zsm zhts [] 3 ze_X5_chain te_X5_chain_0 [48, 65, 103] tsp_X5_chain 25 tl_X5_chain_115 tr_X5_chain_115 = true := by decide +kernel
theorem ts_X5_chain_115 : tchk zty 43 zprog zsm zhts [] 3 ze_X5_chain te_X5_chain_0 [48, 65, 103] tsp_X5_chain 25 (tl_X5_chain_115 ++ tr_X5_chain_115) = true := tchk_app tc_X5_chain_115 ts_X5_chain_116
set_option maxRecDepth 100000 in
theorem tc_X5_chain_114 : tchk2 zty 43 zprog zsm zhts [] 3 ze_X5_chain te_X5_chain_0 [48, 65, 103] tsp_X5_chain 25 tl_X5_chain_114 tr_X5_chain_114 = true := by decide +kernel
theorem ts_X5_chain_114 : tchk zty 43 zprog zsm zhts [] 3 ze_X5_chain te_X5_chain_0 [48, 65, 103] tsp_X5_chain 25 (tl_X5_chain_114 ++ tr_X5_chain_114) = true := tchk_app tc_X5_chain_114 ts_X5_chain_115
set_option maxRecDepth 100000 in
theorem tc_X5_chain_113 : tchk2 zty 43 zprog zsm zhts [] 3 ze_X5_chain te_X5_chain_0 [48, 65, 103] tsp_X5_chain 25 tl_X5_chain_113 tr_X5_chain_113 = true := by decide +kernel
theorem ts_X5_chain_113 : tchk zty 43 zprog zsm zhts [] 3 ze_X5_chain te_X5_chain_0 [48, 65, 103] tsp_X5_chain 25 (tl_X5_chain_113 ++ tr_X5_chain_113) = true := tchk_app tc_X5_chain_113 ts_X5_chain_114
set_option maxRecDepth 100000 in
theorem tc_X5_chain_112 : tchk2 zty 43 zprog zsm zhts [] 3 ze_X5_chain te_X5_chain_0 [48, 65, 103] tsp_X5_chain 25 tl_X5_chain_112 tr_X5_chain_112 = true := by decide +kernel
theorem ts_X5_chain_112 : tchk zty 43 zprog zsm zhts [] 3 ze_X5_chain te_X5_chain_0 [48, 65, 103] tsp_X5_chain 25 (tl_X5_chain_112 ++ tr_X5_chain_112) = true := tchk_app tc_X5_chain_112 ts_X5_chain_113
set_option maxRecDepth 100000 in
theorem tc_X5_chain_111 : tchk2 zty 43 zprog zsm zhts [] 3 ze_X5_chain te_X5_chain_0 [48, 65, 103] tsp_X5_chain 25 tl_X5_chain_111 tr_X5_chain_111 = true := by decide +kernel
theorem ts_X5_chain_111 : tchk zty 43 zprog zsm zhts [] 3 ze_X5_chain te_X5_chain_0 [48, 65, 103] tsp_X5_chain 25 (tl_X5_chain_111 ++ tr_X5_chain_111) = true := tchk_app tc_X5_chain_111 ts_X5_chain_112
set_option maxRecDepth 100000 in
theorem tc_X5_chain_110 : tchk2 zty 43 zprog zsm zhts [] 3 ze_X5_chain te_X5_chain_0 [48, 65, 103] tsp_X5_chain 25 tl_X5_chain_110 tr_X5_chain_110 = true := by decide +kernel
theorem ts_X5_chain_110 : tchk zty 43 zprog zsm zhts [] 3 ze_X5_chain te_X5_chain_0 [48, 65, 103] tsp_X5_chain 25 (tl_X5_chain_110 ++ tr_X5_chain_110) = true := tchk_app tc_X5_chain_110 ts_X5_chain_111
set_option maxRecDepth 100000 in
theorem tc_X5_chain_109 : tchk2 zty 43 zprog zsm zhts [] 3 ze_X5_chain te_X5_chain_0 [48, 65, 103] tsp_X5_chain 25 tl_X5_chain_109 tr_X5_chain_109 = true := by decide +kernel
theorem ts_X5_chain_109 : tchk zty 43 zprog zsm zhts [] 3 ze_X5_chain te_X5_chain_0 [48, 65, 103] tsp_X5_chain 25 (tl_X5_chain_109 ++ tr_X5_chain_109) = true := tchk_app tc_X5_chain_109 ts_X5_chain_110
set_option maxRecDepth 100000 in
theorem tc_X5_chain_108 : tchk2 zty 43 zprog zsm zhts [] 3 ze_X5_chain te_X5_chain_0 [48, 65, 103] tsp_X5_chain 25 tl_X5_chain_108 tr_X5_chain_108 = true := by decide +kernel
theorem ts_X5_chain_108 : tchk zty 43 zprog zsm zhts [] 3 ze_X5_chain te_X5_chain_0 [48, 65, 103] tsp_X5_chain 25 (tl_X5_chain_108 ++ tr_X5_chain_108) = true := tchk_app tc_X5_chain_108 ts_X5_chain_109
set_option maxRecDepth 100000 in
theorem tc_X5_chain_107 : tchk2 zty 43 zprog zsm zhts [] 3 ze_X5_chain te_X5_chain_0 [48, 65, 103] tsp_X5_chain 25 tl_X5_chain_107 tr_X5_chain_107 = true := by decide +kernel
theorem ts_X5_chain_107 : tchk zty 43 zprog zsm zhts [] 3 ze_X5_chain te_X5_chain_0 [48, 65, 103] tsp_X5_chain 25 (tl_X5_chain_107 ++ tr_X5_chain_107) = true := tchk_app tc_X5_chain_107 ts_X5_chain_108
set_option maxRecDepth 100000 in
theorem tc_X5_chain_106 : tchk2 zty 43 zprog zsm zhts [] 3 ze_X5_chain te_X5_chain_0 [48, 65, 103] tsp_X5_chain 25 tl_X5_chain_106 tr_X5_chain_106 = true := by decide +kernel
theorem ts_X5_chain_106 : tchk zty 43 zprog zsm zhts [] 3 ze_X5_chain te_X5_chain_0 [48, 65, 103] tsp_X5_chain 25 (tl_X5_chain_106 ++ tr_X5_chain_106) = true := tchk_app tc_X5_chain_106 ts_X5_chain_107
set_option maxRecDepth 100000 in
theorem tc_X5_chain_105 : tchk2 zty 43 zprog zsm zhts [] 3 ze_X5_chain te_X5_chain_0 [48, 65, 103] tsp_X5_chain 25 tl_X5_chain_105 tr_X5_chain_105 = true := by decide +kernel
theorem ts_X5_chain_105 : tchk zty 43 zprog zsm zhts [] 3 ze_X5_chain te_X5_chain_0 [48, 65, 103] tsp_X5_chain 25 (tl_X5_chain_105 ++ tr_X5_chain_105) = true := tchk_app tc_X5_chain_105 ts_X5_chain_106
set_option maxRecDepth 100000 in
theorem tc_X5_chain_104 : tchk2 zty 43 zprog zsm zhts [] 3 ze_X5_chain te_X5_chain_0 [48, 65, 103] tsp_X5_chain 25 tl_X5_chain_104 tr_X5_chain_104 = true := by decide +kernel
theorem ts_X5_chain_104 : tchk zty 43 zprog zsm zhts [] 3 ze_X5_chain te_X5_chain_0 [48, 65, 103] tsp_X5_chain 25 (tl_X5_chain_104 ++ tr_X5_chain_104) = true := tchk_app tc_X5_chain_104 ts_X5_chain_105
set_option maxRecDepth 100000 in
theorem tc_X5_chain_103 : tchk2 zty 43 zprog zsm zhts [] 3 ze_X5_chain te_X5_chain_0 [48, 65, 103] tsp_X5_chain 25 tl_X5_chain_103 tr_X5_chain_103 = true := by decide +kernel
theorem ts_X5_chain_103 : tchk zty 43 zprog zsm zhts [] 3 ze_X5_chain te_X5_chain_0 [48, 65, 103] tsp_X5_chain 25 (tl_X5_chain_103 ++ tr_X5_chain_103) = true := tchk_app tc_X5_chain_103 ts_X5_chain_104
set_option maxRecDepth 100000 in
theorem tc_X5_chain_102 : tchk2 zty 43 zprog zsm zhts [] 3 ze_X5_chain te_X5_chain_0 [48, 65, 103] tsp_X5_chain 25 tl_X5_chain_102 tr_X5_chain_102 = true := by decide +kernel
theorem ts_X5_chain_102 : tchk zty 43 zprog zsm zhts [] 3 ze_X5_chain te_X5_chain_0 [48, 65, 103] tsp_X5_chain 25 (tl_X5_chain_102 ++ tr_X5_chain_102) = true := tchk_app tc_X5_chain_102 ts_X5_chain_103
set_option maxRecDepth 100000 in
theorem tc_X5_chain_101 : tchk2 zty 43 zprog zsm zhts [] 3 ze_X5_chain te_X5_chain_0 [48, 65, 103] tsp_X5_chain 25 tl_X5_chain_101 tr_X5_chain_101 = true := by decide +kernel
theorem ts_X5_chain_101 : tchk zty 43 zprog zsm zhts [] 3 ze_X5_chain te_X5_chain_0 [48, 65, 103] tsp_X5_chain 25 (tl_X5_chain_101 ++ tr_X5_chain_101) = true := tchk_app tc_X5_chain_101 ts_X5_chain_102
set_option maxRecDepth 100000 in
theorem tc_X5_chain_100 : tchk2 zty 43 zprog zsm zhts [] 3 ze_X5_chain te_X5_chain_0 [48, 65, 103] tsp_X5_chain 25 tl_X5_chain_100 tr_X5_chain_100 = true := by decide +kernel
theorem ts_X5_chain_100 : tchk zty 43 zprog zsm zhts [] 3 ze_X5_chain te_X5_chain_0 [48, 65, 103] tsp_X5_chain 25 (tl_X5_chain_100 ++ tr_X5_chain_100) = true := tchk_app tc_X5_chain_100 ts_X5_chain_101
