/-- field kinds of each class: 0 int, 1 long, 2 reference, 3 boolean -/
def zk_ftl : List (List Nat) := [[2, 2, 2, 2, 2, 2, 0, 0, 0, 0, 0, 0, 0, 0, 0],
  [2, 2, 2, 0, 0, 0],
  [2, 2, 2, 0],
  [2, 2, 2, 2, 2, 0],
  [2, 0, 0],
  [2, 2, 0, 0, 0],
  [2, 2, 2, 0],
  [2, 0],
  [2, 0, 0, 0, 0, 0, 0, 0],
  [2, 2, 2, 2, 2, 2, 2, 2, 2, 2, 2, 0, 0, 0, 0],
  [2, 2, 0],
  [2, 2, 2, 2, 2, 2, 2, 2, 2, 2, 2, 2, 0, 0, 0, 0, 0, 0],
  [2, 0, 0, 0, 0, 0, 0, 0, 0, 2, 2, 2, 2, 2, 2, 2, 2, 2, 2, 2, 2, 2, 2, 2, 2, 2, 2, 2, 2, 2, 2, 2, 2, 2, 2, 2, 2, 2, 2, 2, 0, 2, 2, 2, 2, 2, 2, 2, 2, 2, 2, 0, 3, 2, 0, 2, 0, 0, 0, 2, 0, 2, 2, 2, 2, 0, 0, 0, 2, 2, 0, 0, 1, 0, 0, 2, 2, 2, 2, 2, 2, 2, 2, 2, 2, 2, 2, 2, 2, 2, 2, 2, 2, 2, 2, 0, 2, 0, 0, 0, 2, 0, 1, 3, 2, 0]]
def zk_ft (ci k : Nat) : Nat := (zk_ftl.getD ci []).getD k 0
def zk_N (ci : Nat) : Nat := (zk_ftl.getD ci []).length
def zk_R : Nat → String
  | 0 => RX0
  | 1 => RX1
  | 2 => RX2
  | 3 => RX3
  | 4 => RX4
  | 5 => RX5
  | 6 => RX6
  | 7 => RX7
  | 8 => RX8
  | 9 => RX9
  | 10 => RX10
  | 11 => RX11
  | _ => RX12
def zk_T : Nat → u_T
  | 0 => TX0
  | 1 => TX1
  | 2 => TX2
  | 3 => TX3
  | 4 => TX4
  | 5 => TX5
  | 6 => TX6
  | 7 => TX7
  | 8 => TX8
  | 9 => TX9
  | 10 => TX10
  | 11 => TX11
  | _ => TX12
def zk_ty : Nat → Nat → FieldType
  | 0 => tyX0
  | 1 => tyX1
  | 2 => tyX2
  | 3 => tyX3
  | 4 => tyX4
  | 5 => tyX5
  | 6 => tyX6
  | 7 => tyX7
  | 8 => tyX8
  | 9 => tyX9
  | 10 => tyX10
  | 11 => tyX11
  | _ => tyX12
abbrev zk_cl : List vw_C := [(RX0, TX0, 15), (RX1, TX1, 6), (RX2, TX2, 4), (RX3, TX3, 6), (RX4, TX4, 3), (RX5, TX5, 5), (RX6, TX6, 4), (RX7, TX7, 2), (RX8, TX8, 8), (RX9, TX9, 15), (RX10, TX10, 3), (RX11, TX11, 18), (RX12, TX12, 106)]
/-- the places in the order in which they are made: kind (a class, 20 int[], 21 long[], 22 char[], 23 Moment[]) and length -/
def zk_lt : List (Nat × Nat) := [(11, 0), (2, 0), (20, 64), (20, 8), (20, 10), (7, 0), (20, 1600), (8, 0), (1, 0), (20, 1600), (10, 0), (6, 0), (5, 0), (20, 6), (0, 0), (3, 0), (20, 6), (20, 60), (20, 60), (20, 10), (20, 10), (3, 0), (20, 6), (20, 60), (20, 60), (20, 10), (20, 10), (3, 0), (20, 6), (20, 60), (20, 60), (20, 10), (20, 10), (3, 0), (20, 6), (20, 60), (20, 60), (20, 10), (20, 10), (20, 6), (3, 0), (20, 6), (20, 60), (20, 60), (20, 10), (20, 10), (23, 20), (20, 219), (20, 6), (9, 0), (4, 0), (20, 36), (4, 0), (20, 36), (4, 0), (20, 60), (20, 36), (20, 6), (20, 10), (20, 10), (20, 60), (20, 1600), (20, 4), (20, 4), (9, 0), (4, 0), (20, 36), (4, 0), (20, 36), (4, 0), (20, 60), (20, 36), (20, 6), (20, 10), (20, 10), (20, 60), (20, 1600), (20, 4), (20, 4), (12, 0), (20, 1600), (20, 6), (22, 5), (22, 3), (22, 5), (22, 6), (22, 2), (22, 5), (22, 6), (22, 4), (22, 5), (22, 4), (22, 3), (22, 4), (22, 4), (22, 5), (22, 6), (22, 5), (22, 4), (22, 4), (22, 3), (22, 6), (22, 5), (22, 4), (22, 6), (22, 4), (22, 2), (22, 3), (22, 3), (22, 3), (22, 3), (22, 3), (20, 6), (21, 60), (20, 72), (20, 12), (20, 20), (20, 20), (20, 120), (20, 8), (20, 8), (20, 8), (20, 3200), (20, 1700), (21, 1700), (20, 6), (20, 147), (20, 441), (20, 60), (20, 6), (20, 2940), (22, 5), (22, 4), (22, 5), (22, 5), (22, 4), (22, 5), (22, 3), (22, 3), (22, 2), (22, 3), (22, 3), (22, 3), (22, 6), (22, 6), (22, 5), (22, 4), (22, 4), (22, 4), (22, 6), (20, 1700), (20, 1700), (21, 1700), (20, 219)]
def zk_lm : List (Nat × Nat) := [(3, 0), (20, 6), (20, 60), (20, 60), (20, 10), (20, 10)]
def zk_lay (p : Nat) : Nat × Nat := if p < 154 then zk_lt.getD p (99, 0) else if p < 274 then zk_lm.getD ((p - 154) % 6) (99, 0) else (99, 0)
def zk_sz (p : Nat) : Nat := if (zk_lay p).1 < 20 then zk_N (zk_lay p).1 else (zk_lay p).2
def zk_sl : Nat → Nat
  | 0 => 0
  | n + 1 => zk_sl n + zk_sz n
theorem zl_0 : zk_lay 0 = (11, 0) := by decide +kernel
theorem zl_1 : zk_lay 1 = (2, 0) := by decide +kernel
theorem zl_2 : zk_lay 2 = (20, 64) := by decide +kernel
theorem zl_3 : zk_lay 3 = (20, 8) := by decide +kernel
theorem zl_4 : zk_lay 4 = (20, 10) := by decide +kernel
theorem zl_5 : zk_lay 5 = (7, 0) := by decide +kernel
theorem zl_6 : zk_lay 6 = (20, 1600) := by decide +kernel
theorem zl_7 : zk_lay 7 = (8, 0) := by decide +kernel
theorem zl_8 : zk_lay 8 = (1, 0) := by decide +kernel
theorem zl_9 : zk_lay 9 = (20, 1600) := by decide +kernel
theorem zl_10 : zk_lay 10 = (10, 0) := by decide +kernel
theorem zl_11 : zk_lay 11 = (6, 0) := by decide +kernel
theorem zl_12 : zk_lay 12 = (5, 0) := by decide +kernel
theorem zl_13 : zk_lay 13 = (20, 6) := by decide +kernel
theorem zl_14 : zk_lay 14 = (0, 0) := by decide +kernel
theorem zl_15 : zk_lay 15 = (3, 0) := by decide +kernel
theorem zl_16 : zk_lay 16 = (20, 6) := by decide +kernel
theorem zl_17 : zk_lay 17 = (20, 60) := by decide +kernel
theorem zl_18 : zk_lay 18 = (20, 60) := by decide +kernel
theorem zl_19 : zk_lay 19 = (20, 10) := by decide +kernel
theorem zl_20 : zk_lay 20 = (20, 10) := by decide +kernel
theorem zl_21 : zk_lay 21 = (3, 0) := by decide +kernel
theorem zl_22 : zk_lay 22 = (20, 6) := by decide +kernel
theorem zl_23 : zk_lay 23 = (20, 60) := by decide +kernel
theorem zl_24 : zk_lay 24 = (20, 60) := by decide +kernel
theorem zl_25 : zk_lay 25 = (20, 10) := by decide +kernel
theorem zl_26 : zk_lay 26 = (20, 10) := by decide +kernel
theorem zl_27 : zk_lay 27 = (3, 0) := by decide +kernel
theorem zl_28 : zk_lay 28 = (20, 6) := by decide +kernel
theorem zl_29 : zk_lay 29 = (20, 60) := by decide +kernel
theorem zl_30 : zk_lay 30 = (20, 60) := by decide +kernel
theorem zl_31 : zk_lay 31 = (20, 10) := by decide +kernel
theorem zl_32 : zk_lay 32 = (20, 10) := by decide +kernel
theorem zl_33 : zk_lay 33 = (3, 0) := by decide +kernel
theorem zl_34 : zk_lay 34 = (20, 6) := by decide +kernel
theorem zl_35 : zk_lay 35 = (20, 60) := by decide +kernel
theorem zl_36 : zk_lay 36 = (20, 60) := by decide +kernel
theorem zl_37 : zk_lay 37 = (20, 10) := by decide +kernel
theorem zl_38 : zk_lay 38 = (20, 10) := by decide +kernel
theorem zl_39 : zk_lay 39 = (20, 6) := by decide +kernel
theorem zl_40 : zk_lay 40 = (3, 0) := by decide +kernel
theorem zl_41 : zk_lay 41 = (20, 6) := by decide +kernel
theorem zl_42 : zk_lay 42 = (20, 60) := by decide +kernel
theorem zl_43 : zk_lay 43 = (20, 60) := by decide +kernel
theorem zl_44 : zk_lay 44 = (20, 10) := by decide +kernel
theorem zl_45 : zk_lay 45 = (20, 10) := by decide +kernel
theorem zl_46 : zk_lay 46 = (23, 20) := by decide +kernel
theorem zl_47 : zk_lay 47 = (20, 219) := by decide +kernel
theorem zl_48 : zk_lay 48 = (20, 6) := by decide +kernel
theorem zl_49 : zk_lay 49 = (9, 0) := by decide +kernel
theorem zl_50 : zk_lay 50 = (4, 0) := by decide +kernel
theorem zl_51 : zk_lay 51 = (20, 36) := by decide +kernel
theorem zl_52 : zk_lay 52 = (4, 0) := by decide +kernel
theorem zl_53 : zk_lay 53 = (20, 36) := by decide +kernel
theorem zl_54 : zk_lay 54 = (4, 0) := by decide +kernel
theorem zl_55 : zk_lay 55 = (20, 60) := by decide +kernel
theorem zl_56 : zk_lay 56 = (20, 36) := by decide +kernel
theorem zl_57 : zk_lay 57 = (20, 6) := by decide +kernel
theorem zl_58 : zk_lay 58 = (20, 10) := by decide +kernel
theorem zl_59 : zk_lay 59 = (20, 10) := by decide +kernel
theorem zl_60 : zk_lay 60 = (20, 60) := by decide +kernel
theorem zl_61 : zk_lay 61 = (20, 1600) := by decide +kernel
theorem zl_62 : zk_lay 62 = (20, 4) := by decide +kernel
theorem zl_63 : zk_lay 63 = (20, 4) := by decide +kernel
theorem zl_64 : zk_lay 64 = (9, 0) := by decide +kernel
theorem zl_65 : zk_lay 65 = (4, 0) := by decide +kernel
theorem zl_66 : zk_lay 66 = (20, 36) := by decide +kernel
theorem zl_67 : zk_lay 67 = (4, 0) := by decide +kernel
theorem zl_68 : zk_lay 68 = (20, 36) := by decide +kernel
theorem zl_69 : zk_lay 69 = (4, 0) := by decide +kernel
theorem zl_70 : zk_lay 70 = (20, 60) := by decide +kernel
theorem zl_71 : zk_lay 71 = (20, 36) := by decide +kernel
theorem zl_72 : zk_lay 72 = (20, 6) := by decide +kernel
theorem zl_73 : zk_lay 73 = (20, 10) := by decide +kernel
theorem zl_74 : zk_lay 74 = (20, 10) := by decide +kernel
theorem zl_75 : zk_lay 75 = (20, 60) := by decide +kernel
theorem zl_76 : zk_lay 76 = (20, 1600) := by decide +kernel
theorem zl_77 : zk_lay 77 = (20, 4) := by decide +kernel
theorem zl_78 : zk_lay 78 = (20, 4) := by decide +kernel
theorem zl_79 : zk_lay 79 = (12, 0) := by decide +kernel
theorem zl_80 : zk_lay 80 = (20, 1600) := by decide +kernel
theorem zl_81 : zk_lay 81 = (20, 6) := by decide +kernel
theorem zl_82 : zk_lay 82 = (22, 5) := by decide +kernel
theorem zl_83 : zk_lay 83 = (22, 3) := by decide +kernel
theorem zl_84 : zk_lay 84 = (22, 5) := by decide +kernel
theorem zl_85 : zk_lay 85 = (22, 6) := by decide +kernel
theorem zl_86 : zk_lay 86 = (22, 2) := by decide +kernel
theorem zl_87 : zk_lay 87 = (22, 5) := by decide +kernel
theorem zl_88 : zk_lay 88 = (22, 6) := by decide +kernel
theorem zl_89 : zk_lay 89 = (22, 4) := by decide +kernel
theorem zl_90 : zk_lay 90 = (22, 5) := by decide +kernel
theorem zl_91 : zk_lay 91 = (22, 4) := by decide +kernel
theorem zl_92 : zk_lay 92 = (22, 3) := by decide +kernel
theorem zl_93 : zk_lay 93 = (22, 4) := by decide +kernel
theorem zl_94 : zk_lay 94 = (22, 4) := by decide +kernel
theorem zl_95 : zk_lay 95 = (22, 5) := by decide +kernel
theorem zl_96 : zk_lay 96 = (22, 6) := by decide +kernel
theorem zl_97 : zk_lay 97 = (22, 5) := by decide +kernel
theorem zl_98 : zk_lay 98 = (22, 4) := by decide +kernel
theorem zl_99 : zk_lay 99 = (22, 4) := by decide +kernel
theorem zl_100 : zk_lay 100 = (22, 3) := by decide +kernel
theorem zl_101 : zk_lay 101 = (22, 6) := by decide +kernel
theorem zl_102 : zk_lay 102 = (22, 5) := by decide +kernel
theorem zl_103 : zk_lay 103 = (22, 4) := by decide +kernel
theorem zl_104 : zk_lay 104 = (22, 6) := by decide +kernel
theorem zl_105 : zk_lay 105 = (22, 4) := by decide +kernel
theorem zl_106 : zk_lay 106 = (22, 2) := by decide +kernel
theorem zl_107 : zk_lay 107 = (22, 3) := by decide +kernel
theorem zl_108 : zk_lay 108 = (22, 3) := by decide +kernel
theorem zl_109 : zk_lay 109 = (22, 3) := by decide +kernel
theorem zl_110 : zk_lay 110 = (22, 3) := by decide +kernel
theorem zl_111 : zk_lay 111 = (22, 3) := by decide +kernel
theorem zl_112 : zk_lay 112 = (20, 6) := by decide +kernel
theorem zl_113 : zk_lay 113 = (21, 60) := by decide +kernel
theorem zl_114 : zk_lay 114 = (20, 72) := by decide +kernel
theorem zl_115 : zk_lay 115 = (20, 12) := by decide +kernel
theorem zl_116 : zk_lay 116 = (20, 20) := by decide +kernel
theorem zl_117 : zk_lay 117 = (20, 20) := by decide +kernel
theorem zl_118 : zk_lay 118 = (20, 120) := by decide +kernel
theorem zl_119 : zk_lay 119 = (20, 8) := by decide +kernel
theorem zl_120 : zk_lay 120 = (20, 8) := by decide +kernel
theorem zl_121 : zk_lay 121 = (20, 8) := by decide +kernel
theorem zl_122 : zk_lay 122 = (20, 3200) := by decide +kernel
theorem zl_123 : zk_lay 123 = (20, 1700) := by decide +kernel
theorem zl_124 : zk_lay 124 = (21, 1700) := by decide +kernel
theorem zl_125 : zk_lay 125 = (20, 6) := by decide +kernel
theorem zl_126 : zk_lay 126 = (20, 147) := by decide +kernel
theorem zl_127 : zk_lay 127 = (20, 441) := by decide +kernel
theorem zl_128 : zk_lay 128 = (20, 60) := by decide +kernel
theorem zl_129 : zk_lay 129 = (20, 6) := by decide +kernel
theorem zl_130 : zk_lay 130 = (20, 2940) := by decide +kernel
theorem zl_131 : zk_lay 131 = (22, 5) := by decide +kernel
theorem zl_132 : zk_lay 132 = (22, 4) := by decide +kernel
theorem zl_133 : zk_lay 133 = (22, 5) := by decide +kernel
theorem zl_134 : zk_lay 134 = (22, 5) := by decide +kernel
theorem zl_135 : zk_lay 135 = (22, 4) := by decide +kernel
theorem zl_136 : zk_lay 136 = (22, 5) := by decide +kernel
theorem zl_137 : zk_lay 137 = (22, 3) := by decide +kernel
theorem zl_138 : zk_lay 138 = (22, 3) := by decide +kernel
theorem zl_139 : zk_lay 139 = (22, 2) := by decide +kernel
theorem zl_140 : zk_lay 140 = (22, 3) := by decide +kernel
theorem zl_141 : zk_lay 141 = (22, 3) := by decide +kernel
theorem zl_142 : zk_lay 142 = (22, 3) := by decide +kernel
theorem zl_143 : zk_lay 143 = (22, 6) := by decide +kernel
theorem zl_144 : zk_lay 144 = (22, 6) := by decide +kernel
theorem zl_145 : zk_lay 145 = (22, 5) := by decide +kernel
theorem zl_146 : zk_lay 146 = (22, 4) := by decide +kernel
theorem zl_147 : zk_lay 147 = (22, 4) := by decide +kernel
theorem zl_148 : zk_lay 148 = (22, 4) := by decide +kernel
theorem zl_149 : zk_lay 149 = (22, 6) := by decide +kernel
theorem zl_150 : zk_lay 150 = (20, 1700) := by decide +kernel
theorem zl_151 : zk_lay 151 = (20, 1700) := by decide +kernel
theorem zl_152 : zk_lay 152 = (21, 1700) := by decide +kernel
theorem zl_153 : zk_lay 153 = (20, 219) := by decide +kernel
def zk_mt0 : List (MethodName × ByteArray × Nat × Option FieldType) := [(yX0_init, cX0_init, 2, none),
  (yX0_nightsAhead, cX0_nightsAhead, 1, (some .int)),
  (yX0_pointsLater, cX0_pointsLater, 8, (some .int)),
  (yX0_findForgotten, cX0_findForgotten, 5, (some .boolean)),
  (yX0_findBreak, cX0_findBreak, 6, (some .boolean)),
  (yX0_fewestToKeep, cX0_fewestToKeep, 6, (some .int)),
  (yX0_choose, cX0_choose, 6, none),
  (yX0_isMore, cX0_isMore, 2, (some .boolean)),
  (yX0_isWorse, cX0_isWorse, 3, (some .boolean)),
  (yX0_keepsBySaying, cX0_keepsBySaying, 8, (some .boolean)),
  (yX0_findBest, cX0_findBest, 7, (some .boolean)),
  (yX0_findShovelled, cX0_findShovelled, 8, none),
  (yX0_routeStep, cX0_routeStep, 8, (some .int)),
  (yX0_measure, cX0_measure, 7, none),
  (yX0_farBy, cX0_farBy, 6, (some .int)),
  (yX0_nextOnRoute, cX0_nextOnRoute, 5, (some .int)),
  (yX0_holdsAgainst, cX0_holdsAgainst, 6, (some .boolean)),
  (yX0_canHold, cX0_canHold, 6, (some .boolean)),
  (yX0_outlivesTheft, cX0_outlivesTheft, 9, (some .boolean)),
  (yX1_init, cX1_init, 2, none),
  (yX1_begin, cX1_begin, 4, none),
  (yX1_put, cX1_put, 2, none),
  (yX1_openHere, cX1_openHere, 1, (some .boolean)),
  (yX1_openBracket, cX1_openBracket, 1, (some .boolean)),
  (yX1_shut, cX1_shut, 2, (some .boolean)),
  (yX1_readTest, cX1_readTest, 2, (some .boolean)),
  (yX1_readBoth, cX1_readBoth, 2, (some .boolean)),
  (yX1_readFact, cX1_readFact, 1, (some .boolean)),
  (yX1_readComparison, cX1_readComparison, 2, (some .boolean)),
  (yX1_readSum, cX1_readSum, 3, (some .boolean)),
  (yX1_readProduct, cX1_readProduct, 3, (some .boolean)),
  (yX1_readPart, cX1_readPart, 1, (some .boolean)),
  (yX1_readPair, cX1_readPair, 2, (some .boolean)),
  (yX1_readWord, cX1_readWord, 2, (some .boolean)),
  (yX1_stepOf, cX1_stepOf, 2, (some .int)),
  (yX2_init, cX2_init, 1, none),
  (yX2_tell, cX2_tell, 3, none),
  (yX2_turnTo, cX2_turnTo, 4, none),
  (yX2_learn, cX2_learn, 5, none),
  (yX2_run, cX2_run, 7, (some .int))]
def zk_mt1 : List (MethodName × ByteArray × Nat × Option FieldType) := [(yX2_toldBy, cX2_toldBy, 2, (some .int)),
  (yX2_pointsOfNumber, cX2_pointsOfNumber, 2, (some .int)),
  (yX2_join, cX2_join, 5, (some .int)),
  (yX3_init, cX3_init, 1, none),
  (yX3_copy, cX3_copy, 2, none),
  (yX3_copyKnowing, cX3_copyKnowing, 2, none),
  (yX3_begin, cX3_begin, 3, none),
  (yX3_pointsOf, cX3_pointsOf, 3, (some .int)),
  (yX3_knownBy, cX3_knownBy, 4, (some .int)),
  (yX3_knowsAll, cX3_knowsAll, 3, (some .boolean)),
  (yX3_countKnowing, cX3_countKnowing, 4, (some .int)),
  (yX3_lyingIn, cX3_lyingIn, 4, (some .int)),
  (yX3_lyingOf, cX3_lyingOf, 4, (some .int)),
  (yX3_writeImage, cX3_writeImage, 6, (some .int)),
  (yX3_putOne, cX3_putOne, 3, (some .int)),
  (yX3_putTwo, cX3_putTwo, 3, (some .int)),
  (yX3_checkOf, cX3_checkOf, 4, (some .int)),
  (yX3_isImage, cX3_isImage, 9, (some .boolean)),
  (yX3_readImage, cX3_readImage, 6, none),
  (yX4_init, cX4_init, 2, none),
  (yX4_letterOf, cX4_letterOf, 3, (some .int)),
  (yX4_indexOf, cX4_indexOf, 5, (some .int)),
  (yX4_add, cX4_add, 3, none),
  (yX4_letterIn, cX4_letterIn, 2, (some .int)),
  (yX5_init, cX5_init, 2, none),
  (yX5_passNight, cX5_passNight, 6, (some .int)),
  (yX5_dimKnowing, cX5_dimKnowing, 7, none),
  (yX5_fadeThing, cX5_fadeThing, 7, none),
  (yX5_forget, cX5_forget, 6, none),
  (yX5_raise, cX5_raise, 8, none),
  (yX5_speak, cX5_speak, 7, (some .int)),
  (yX5_gain, cX5_gain, 8, none),
  (yX5_canCatch, cX5_canCatch, 5, (some .boolean)),
  (yX5_catchThing, cX5_catchThing, 7, none),
  (yX6_init, cX6_init, 4, none),
  (yX6_read, cX6_read, 2, (some .boolean)),
  (yX6_answer, cX6_answer, 8, (some .long)),
  (yX6_valueFor, cX6_valueFor, 4, (some .int)),
  (yX7_init, cX7_init, 1, none),
  (yX7_append, cX7_append, 3, none)]
def zk_mt2 : List (MethodName × ByteArray × Nat × Option FieldType) := [(yX7_at, cX7_at, 2, (some .int)),
  (yX7_twoAt, cX7_twoAt, 2, (some .int)),
  (yX7_isAbove, cX7_isAbove, 5, (some .boolean)),
  (yX8_init, cX8_init, 2, none),
  (yX8_begin, cX8_begin, 1, none),
  (yX8_refuseAt, cX8_refuseAt, 3, (some .boolean)),
  (yX8_refuseHere, cX8_refuseHere, 2, (some .boolean)),
  (yX8_next, cX8_next, 3, none),
  (yX8_isBlank, cX8_isBlank, 1, (some .boolean)),
  (yX8_sortOf, cX8_sortOf, 1, (some .int)),
  (yX8_wordKind, cX8_wordKind, 4, (some .int)),
  (yX8_numberKind, cX8_numberKind, 2, (some .int)),
  (yX8_skip, cX8_skip, 2, (some .boolean)),
  (yX8_need, cX8_need, 2, (some .boolean)),
  (yX8_isNumber, cX8_isNumber, 1, (some .boolean)),
  (yX8_isName, cX8_isName, 1, (some .boolean)),
  (yX8_takeNumber, cX8_takeNumber, 4, (some .int)),
  (yX9_init, cX9_init, 1, none),
  (yX9_clear, cX9_clear, 2, none),
  (yX9_isNamed, cX9_isNamed, 2, (some .boolean)),
  (yX9_withRoots, cX9_withRoots, 4, (some .int)),
  (yX10_init, cX10_init, 3, none),
  (yX10_read, cX10_read, 3, (some .int)),
  (yX10_readStatement, cX10_readStatement, 3, (some .boolean)),
  (yX10_readNew, cX10_readNew, 3, (some .boolean)),
  (yX10_readOld, cX10_readOld, 4, (some .int)),
  (yX10_readWay, cX10_readWay, 5, (some .boolean)),
  (yX10_readPerson, cX10_readPerson, 4, (some .boolean)),
  (yX10_readThing, cX10_readThing, 4, (some .boolean)),
  (yX10_readRoots, cX10_readRoots, 6, (some .boolean)),
  (yX10_readKnows, cX10_readKnows, 5, (some .boolean)),
  (yX10_readRule, cX10_readRule, 3, (some .boolean)),
  (yX10_readSetting, cX10_readSetting, 6, (some .boolean)),
  (yX11_init, cX11_init, 3, none),
  (yX11_feed, cX11_feed, 6, (some .int)),
  (yX11_end, cX11_end, 2, (some .boolean)),
  (yX11_valley, cX11_valley, 3, (some .int)),
  (yX11_fault, cX11_fault, 2, (some .int)),
  (yX11_has, cX11_has, 2, (some .int)),
  (yX11_letter, cX11_letter, 5, (some .int))]
def zk_mt3 : List (MethodName × ByteArray × Nat × Option FieldType) := [(yX11_thing, cX11_thing, 3, (some .int)),
  (yX11_person, cX11_person, 3, (some .int)),
  (yX11_points, cX11_points, 3, (some .int)),
  (yX11_lies, cX11_lies, 3, (some .int)),
  (yX11_way, cX11_way, 4, (some .int)),
  (yX11_later, cX11_later, 4, (some .int)),
  (yX11_forgets, cX11_forgets, 2, (some .int)),
  (yX11_breaks, cX11_breaks, 2, (some .int)),
  (yX11_keep, cX11_keep, 6, (some .int)),
  (yX11_best, cX11_best, 4, (some .int)),
  (yX11_shovel, cX11_shovel, 4, (some .int)),
  (yX11_route, cX11_route, 4, (some .int)),
  (yX11_whose, cX11_whose, 6, (some .int)),
  (yX11_against, cX11_against, 4, (some .int)),
  (yX11_say, cX11_say, 3, (some .int)),
  (yX11_take, cX11_take, 3, (some .boolean)),
  (yX11_go, cX11_go, 3, (some .boolean)),
  (yX11_nights, cX11_nights, 4, (some .int)),
  (yX11_days, cX11_days, 4, (some .int)),
  (yX11_undo, cX11_undo, 2, (some .boolean)),
  (yX11_seed, cX11_seed, 2, (some .boolean)),
  (yX11_ask, cX11_ask, 3, (some .long)),
  (yX11_image, cX11_image, 1, (some .int)),
  (yX11_octet, cX11_octet, 2, (some .int)),
  (yX11_on, cX11_on, 2, (some .boolean)),
  (yX11_status, cX11_status, 2, (some .int)),
  (yX11_refuse, cX11_refuse, 2, (some .int)),
  (yX11_noteFault, cX11_noteFault, 1, none),
  (yX11_remember, cX11_remember, 3, none),
  (yX11_isPlace, cX11_isPlace, 2, (some .boolean)),
  (yX11_isPerson, cX11_isPerson, 2, (some .boolean)),
  (yX11_isThing, cX11_isThing, 2, (some .boolean)),
  (yX11_isAhead, cX11_isAhead, 2, (some .boolean)),
  (yX11_knownByAll, cX11_knownByAll, 3, (some .int)),
  (yX11_lyingInAll, cX11_lyingInAll, 3, (some .int)),
  (yX11_goneOfAll, cX11_goneOfAll, 3, (some .int)),
  (yX11_knownByNobody, cX11_knownByNobody, 3, (some .int)),
  (yX11_spendDay, cX11_spendDay, 3, none),
  (yX11_draw, cX11_draw, 2, (some .int)),
  (yX11_within, cX11_within, 3, (some .int))]
def zk_mt4 : List (MethodName × ByteArray × Nat × Option FieldType) := [(yX12_init, cX12_init, 1, none),
  (yX12_isIn, cX12_isIn, 6, (some .boolean)),
  (yX12_feed, cX12_feed, 8, (some .int)),
  (yX12_end, cX12_end, 2, (some .boolean)),
  (yX12_fail, cX12_fail, 3, none),
  (yX12_isLetter, cX12_isLetter, 1, (some .boolean)),
  (yX12_isDigit, cX12_isDigit, 1, (some .boolean)),
  (yX12_look, cX12_look, 1, (some .int)),
  (yX12_isHere, cX12_isHere, 4, (some .boolean)),
  (yX12_takes, cX12_takes, 2, (some .boolean)),
  (yX12_asks, cX12_asks, 2, none),
  (yX12_takesSign, cX12_takesSign, 2, (some .boolean)),
  (yX12_asksSign, cX12_asksSign, 2, none),
  (yX12_number, cX12_number, 5, (some .int)),
  (yX12_isOwnHere, cX12_isOwnHere, 2, (some .boolean)),
  (yX12_name, cX12_name, 3, (some .long)),
  (yX12_isFull, cX12_isFull, 4, (some .boolean)),
  (yX12_nameOf, cX12_nameOf, 5, (some .int)),
  (yX12_newName, cX12_newName, 4, (some .long)),
  (yX12_oneOf, cX12_oneOf, 5, (some .int)),
  (yX12_isNamed, cX12_isNamed, 4, none),
  (yX12_placeTold, cX12_placeTold, 2, none),
  (yX12_wayTold, cX12_wayTold, 4, none),
  (yX12_personTold, cX12_personTold, 4, none),
  (yX12_thingTold, cX12_thingTold, 6, none),
  (yX12_knowsTold, cX12_knowsTold, 4, none),
  (yX12_sumIsTold, cX12_sumIsTold, 3, none),
  (yX12_statementTold, cX12_statementTold, 2, none),
  (yX12_valley, cX12_valley, 2, (some .int)),
  (yX12_stands, cX12_stands, 3, none),
  (yX12_code, cX12_code, 2, none),
  (yX12_opens, cX12_opens, 3, none),
  (yX12_isOn, cX12_isOn, 2, (some .boolean)),
  (yX12_drops, cX12_drops, 1, none),
  (yX12_isMark, cX12_isMark, 2, (some .boolean)),
  (yX12_waitsLast, cX12_waitsLast, 2, (some .int)),
  (yX12_dropsToMark, cX12_dropsToMark, 1, none),
  (yX12_onePart, cX12_onePart, 5, none),
  (yX12_goesOn, cX12_goesOn, 2, (some .boolean)),
  (yX12_sumsTold, cX12_sumsTold, 3, none)]
def zk_mt5 : List (MethodName × ByteArray × Nat × Option FieldType) := [(yX12_fault, cX12_fault, 2, (some .int)),
  (yX12_clip, cX12_clip, 2, (some .long)),
  (yX12_floor, cX12_floor, 6, (some .long)),
  (yX12_puts, cX12_puts, 3, none),
  (yX12_joins, cX12_joins, 6, none),
  (yX12_told, cX12_told, 10, (some .int)),
  (yX12_placeMany, cX12_placeMany, 1, (some .int)),
  (yX12_peopleMany, cX12_peopleMany, 1, (some .int)),
  (yX12_thingMany, cX12_thingMany, 1, (some .int)),
  (yX12_isPlace, cX12_isPlace, 2, (some .boolean)),
  (yX12_isPerson, cX12_isPerson, 2, (some .boolean)),
  (yX12_isThing, cX12_isThing, 2, (some .boolean)),
  (yX12_weightOf, cX12_weightOf, 2, (some .int)),
  (yX12_hangsOf, cX12_hangsOf, 2, (some .int)),
  (yX12_placeOf, cX12_placeOf, 2, (some .int)),
  (yX12_pointsOf, cX12_pointsOf, 3, (some .int)),
  (yX12_isAt, cX12_isAt, 4, none),
  (yX12_lostBy, cX12_lostBy, 2, (some .int)),
  (yX12_goneOf, cX12_goneOf, 2, (some .int)),
  (yX12_lyingAt, cX12_lyingAt, 3, (some .int)),
  (yX12_liesNow, cX12_liesNow, 4, none),
  (yX12_lyingOf, cX12_lyingOf, 4, (some .int)),
  (yX12_lyingIn, cX12_lyingIn, 4, (some .int)),
  (yX12_lyingAll, cX12_lyingAll, 3, (some .int)),
  (yX12_knownBy, cX12_knownBy, 4, (some .int)),
  (yX12_knownTo, cX12_knownTo, 4, (some .int)),
  (yX12_knowsAllOf, cX12_knowsAllOf, 3, (some .boolean)),
  (yX12_bits, cX12_bits, 3, (some .int)),
  (yX12_least, cX12_least, 2, (some .int)),
  (yX12_putsAside, cX12_putsAside, 3, none),
  (yX12_takesBack, cX12_takesBack, 3, none),
  (yX12_forgets0, cX12_forgets0, 4, none),
  (yX12_fades, cX12_fades, 4, none),
  (yX12_rises, cX12_rises, 5, none),
  (yX12_nightComes, cX12_nightComes, 3, none),
  (yX12_nightsCome, cX12_nightsCome, 3, none),
  (yX12_isSaid, cX12_isSaid, 7, (some .int)),
  (yX12_countOf, cX12_countOf, 4, (some .int)),
  (yX12_has, cX12_has, 2, (some .int)),
  (yX12_letter, cX12_letter, 9, (some .int))]
def zk_mt6 : List (MethodName × ByteArray × Nat × Option FieldType) := [(yX12_thing, cX12_thing, 3, (some .int)),
  (yX12_person, cX12_person, 3, (some .int)),
  (yX12_points, cX12_points, 3, (some .int)),
  (yX12_lies, cX12_lies, 3, (some .int)),
  (yX12_wayOf, cX12_wayOf, 3, (some .int)),
  (yX12_way, cX12_way, 3, (some .int)),
  (yX12_isAhead, cX12_isAhead, 3, (some .boolean)),
  (yX12_later, cX12_later, 5, (some .int)),
  (yX12_forgets, cX12_forgets, 3, (some .int)),
  (yX12_breaking, cX12_breaking, 2, (some .int)),
  (yX12_breaks, cX12_breaks, 4, (some .int)),
  (yX12_doKeep, cX12_doKeep, 8, (some .boolean)),
  (yX12_keep, cX12_keep, 7, (some .int)),
  (yX12_best, cX12_best, 9, (some .int)),
  (yX12_shovel, cX12_shovel, 8, (some .int)),
  (yX12_step, cX12_step, 3, (some .int)),
  (yX12_laysLeft, cX12_laysLeft, 5, none),
  (yX12_nextOf, cX12_nextOf, 3, (some .int)),
  (yX12_route, cX12_route, 6, (some .int)),
  (yX12_whose, cX12_whose, 5, (some .int)),
  (yX12_goesBy, cX12_goesBy, 8, none),
  (yX12_canSay, cX12_canSay, 4, (some .boolean)),
  (yX12_isSafeByOne, cX12_isSafeByOne, 7, (some .boolean)),
  (yX12_isSafeByTwo, cX12_isSafeByTwo, 7, (some .boolean)),
  (yX12_against, cX12_against, 5, (some .int)),
  (yX12_keeps, cX12_keeps, 2, none),
  (yX12_undo, cX12_undo, 2, (some .boolean)),
  (yX12_say, cX12_say, 3, (some .int)),
  (yX12_take, cX12_take, 5, (some .boolean)),
  (yX12_go, cX12_go, 3, (some .boolean)),
  (yX12_refuses, cX12_refuses, 1, (some .int)),
  (yX12_nights, cX12_nights, 2, (some .int)),
  (yX12_seed, cX12_seed, 2, (some .boolean)),
  (yX12_drawOf, cX12_drawOf, 2, (some .int)),
  (yX12_busyDay, cX12_busyDay, 3, (some .int)),
  (yX12_days, cX12_days, 3, (some .int)),
  (yX12_qCode, cX12_qCode, 2, none),
  (yX12_qOpens, cX12_qOpens, 3, none),
  (yX12_qIsOn, cX12_qIsOn, 2, (some .boolean)),
  (yX12_qDrops, cX12_qDrops, 1, none)]
def zk_mt7 : List (MethodName × ByteArray × Nat × Option FieldType) := [(yX12_qIsBracket, cX12_qIsBracket, 1, (some .boolean)),
  (yX12_qBracket, cX12_qBracket, 2, (some .int)),
  (yX12_qDropsToBracket, cX12_qDropsToBracket, 1, none),
  (yX12_qWordHere, cX12_qWordHere, 1, (some .int)),
  (yX12_qWordOf, cX12_qWordOf, 4, (some .int)),
  (yX12_qAsksWord, cX12_qAsksWord, 2, none),
  (yX12_qEndsPart, cX12_qEndsPart, 1, none),
  (yX12_qPartTold, cX12_qPartTold, 6, none),
  (yX12_qGoesOn, cX12_qGoesOn, 2, (some .boolean)),
  (yX12_qSums, cX12_qSums, 3, none),
  (yX12_qFact, cX12_qFact, 2, none),
  (yX12_qHasSquare, cX12_qHasSquare, 2, (some .boolean)),
  (yX12_qDropsNots, cX12_qDropsNots, 1, none),
  (yX12_qTest, cX12_qTest, 3, none),
  (yX12_qGoesOnTest, cX12_qGoesOnTest, 1, (some .boolean)),
  (yX12_qClip, cX12_qClip, 2, (some .long)),
  (yX12_qFloor, cX12_qFloor, 6, (some .long)),
  (yX12_qPuts, cX12_qPuts, 3, none),
  (yX12_qJoins, cX12_qJoins, 6, none),
  (yX12_qPartOf, cX12_qPartOf, 3, (some .long)),
  (yX12_qOf, cX12_qOf, 5, (some .long)),
  (yX12_qTold, cX12_qTold, 4, (some .long)),
  (yX12_qKind, cX12_qKind, 2, (some .int)),
  (yX12_qTakes, cX12_qTakes, 6, none),
  (yX12_ask, cX12_ask, 4, (some .long)),
  (yX12_checked, cX12_checked, 4, (some .int)),
  (yX12_writes, cX12_writes, 2, none),
  (yX12_writesTwo, cX12_writesTwo, 2, none),
  (yX12_image, cX12_image, 3, (some .int)),
  (yX12_octet, cX12_octet, 2, (some .int)),
  (yX12_two, cX12_two, 2, (some .int)),
  (yX12_thingsFrom, cX12_thingsFrom, 1, (some .int)),
  (yX12_isTold, cX12_isTold, 7, (some .boolean)),
  (yX12_on, cX12_on, 5, (some .boolean)),
  (yX12_status, cX12_status, 2, (some .int)),
  (yJ6_bitCount_0f7a4, cJ6_bitCount_0f7a4, 1, (some .int)),
  (yJ9_floorDiv_7cf53, cJ9_floorDiv_7cf53, 3, (some .int)),
  (yJ9_max_7cf53, cJ9_max_7cf53, 2, (some .int)),
  (yJ9_max_f86c9, cJ9_max_f86c9, 4, (some .long)),
  (yJ9_min_7cf53, cJ9_min_7cf53, 2, (some .int))]
def zk_mt8 : List (MethodName × ByteArray × Nat × Option FieldType) := [(yJ9_min_f86c9, cJ9_min_f86c9, 4, (some .long)),
  (yJ0_length_8abf5, cJ0_length_8abf5, 1, (some .int)),
  (yJ0_charAt_5068e, cJ0_charAt_5068e, 2, (some .char)),
  (yJ0_coder_7d493, cJ0_coder_7d493, 1, (some .byte)),
  (yJ0_isLatin1_aae02, cJ0_isLatin1_aae02, 1, (some .boolean)),
  (yJ0_checkIndex_df160, cJ0_checkIndex_df160, 2, none),
  (yJ1_charAt_3b067, cJ1_charAt_3b067, 2, (some .char)),
  (yJ2_getChar_3b067, cJ2_getChar_3b067, 2, (some .char)),
  (yJ2_length_9d52b, cJ2_length_9d52b, 1, (some .int)),
  (yJ2_charAt_3b067, cJ2_charAt_3b067, 2, (some .char)),
  (yJ2_checkIndex_2214a, cJ2_checkIndex_2214a, 2, none),
  (yJ3_checkIndex_8e157, cJ3_checkIndex_8e157, 3, (some .int))]
def zk_mt : List (MethodName × ByteArray × Nat × Option FieldType) := zk_mt0 ++ (zk_mt1 ++ (zk_mt2 ++ (zk_mt3 ++ (zk_mt4 ++ (zk_mt5 ++ (zk_mt6 ++ (zk_mt7 ++ (zk_mt8))))))))
def zk_m (y : Nat) : MethodName × ByteArray × Nat × Option FieldType := zk_mt.getD y (yX7_init, cX7_init, 0, none)
def zk_TB : List Cond := lw_tbl.filter goodWord
