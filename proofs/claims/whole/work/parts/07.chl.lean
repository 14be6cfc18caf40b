set_option maxRecDepth 20000 in
theorem chk_80 : chk 80 = true := by decide +kernel
set_option maxRecDepth 20000 in
theorem chk_81 : chk 81 = true := by decide +kernel
set_option maxRecDepth 20000 in
theorem chk_82 : chk 82 = true := by decide +kernel
set_option maxRecDepth 20000 in
theorem chk_83 : chk 83 = true := by decide +kernel
set_option maxRecDepth 20000 in
theorem chk_84 : chk 84 = true := by decide +kernel
set_option maxRecDepth 20000 in
theorem chk_85 : chk 85 = true := by decide +kernel
set_option maxRecDepth 20000 in
theorem chk_86 : chk 86 = true := by decide +kernel
set_option maxRecDepth 20000 in
theorem chk_87 : chk 87 = true := by decide +kernel
set_option maxRecDepth 20000 in
theorem chk_88 : chk 88 = true := by decide +kernel
set_option maxRecDepth 20000 in
theorem chk_89 : chk 89 = true := by decide +kernel
set_option maxRecDepth 20000 in
theorem chk_90 : chk 90 = true := by decide +kernel
set_option maxRecDepth 20000 in
theorem chk_91 : chk 91 = true := by decide +kernel
set_option maxRecDepth 20000 in
theorem chk_92 : chk 92 = true := by decide +kernel
set_option maxRecDepth 20000 in
theorem chk_93 : chk 93 = true := by decide +kernel
set_option maxRecDepth 20000 in
theorem chk_94 : chk 94 = true := by decide +kernel
set_option maxRecDepth 20000 in
theorem chk_95 : chk 95 = true := by decide +kernel
set_option maxRecDepth 20000 in
theorem chk_96 : chk 96 = true := by decide +kernel
set_option maxRecDepth 20000 in
theorem chk_97 : chk 97 = true := by decide +kernel
set_option maxRecDepth 20000 in
theorem chk_98 : chk 98 = true := by decide +kernel
set_option maxRecDepth 20000 in
theorem chk_99 : chk 99 = true := by decide +kernel
set_option maxRecDepth 20000 in
theorem chk_100 : chk 100 = true := by decide +kernel
set_option maxRecDepth 20000 in
theorem chk_101 : chk 101 = true := by decide +kernel
set_option maxRecDepth 20000 in
theorem chk_102 : chk 102 = true := by decide +kernel
set_option maxRecDepth 20000 in
theorem chk_103 : chk 103 = true := by decide +kernel
set_option maxRecDepth 20000 in
theorem chk_104 : chk 104 = true := by decide +kernel
set_option maxRecDepth 20000 in
theorem chk_105 : chk 105 = true := by decide +kernel
set_option maxRecDepth 20000 in
theorem chk_106 : chk 106 = true := by decide +kernel
set_option maxRecDepth 20000 in
theorem chk_107 : chk 107 = true := by decide +kernel
set_option maxRecDepth 20000 in
theorem chk_108 : chk 108 = true := by decide +kernel
set_option maxRecDepth 20000 in
theorem chk_109 : chk 109 = true := by decide +kernel
set_option maxRecDepth 20000 in
theorem chk_110 : chk 110 = true := by decide +kernel
set_option maxRecDepth 20000 in
theorem chk_111 : chk 111 = true := by decide +kernel
set_option maxRecDepth 20000 in
theorem chk_112 : chk 112 = true := by decide +kernel
set_option maxRecDepth 20000 in
theorem chk_113 : chk 113 = true := by decide +kernel
set_option maxRecDepth 20000 in
theorem chk_114 : chk 114 = true := by decide +kernel
set_option maxRecDepth 20000 in
theorem chk_115 : chk 115 = true := by decide +kernel
set_option maxRecDepth 20000 in
theorem chk_116 : chk 116 = true := by decide +kernel
set_option maxRecDepth 20000 in
theorem chk_117 : chk 117 = true := by decide +kernel
set_option maxRecDepth 20000 in
theorem chk_118 : chk 118 = true := by decide +kernel
set_option maxRecDepth 20000 in
theorem chk_119 : chk 119 = true := by decide +kernel
set_option maxRecDepth 20000 in
theorem chk_120 : chk 120 = true := by decide +kernel
set_option maxRecDepth 20000 in
theorem chk_121 : chk 121 = true := by decide +kernel
set_option maxRecDepth 20000 in
theorem chk_122 : chk 122 = true := by decide +kernel
set_option maxRecDepth 20000 in
theorem chk_123 : chk 123 = true := by decide +kernel
set_option maxRecDepth 20000 in
theorem chk_124 : chk 124 = true := by decide +kernel
set_option maxRecDepth 20000 in
theorem chk_125 : chk 125 = true := by decide +kernel
set_option maxRecDepth 20000 in
theorem chk_126 : chk 126 = true := by decide +kernel
set_option maxRecDepth 20000 in
theorem chk_127 : chk 127 = true := by decide +kernel
set_option maxRecDepth 20000 in
theorem chk_128 : chk 128 = true := by decide +kernel
set_option maxRecDepth 20000 in
theorem chk_129 : chk 129 = true := by decide +kernel
set_option maxRecDepth 20000 in
theorem chk_130 : chk 130 = true := by decide +kernel
set_option maxRecDepth 20000 in
theorem chk_131 : chk 131 = true := by decide +kernel
set_option maxRecDepth 20000 in
theorem chk_132 : chk 132 = true := by decide +kernel
set_option maxRecDepth 20000 in
theorem chk_133 : chk 133 = true := by decide +kernel
set_option maxRecDepth 20000 in
theorem chk_134 : chk 134 = true := by decide +kernel
set_option maxRecDepth 20000 in
theorem chk_135 : chk 135 = true := by decide +kernel
set_option maxRecDepth 20000 in
theorem chk_136 : chk 136 = true := by decide +kernel
set_option maxRecDepth 20000 in
theorem chk_137 : chk 137 = true := by decide +kernel
set_option maxRecDepth 20000 in
theorem chk_138 : chk 138 = true := by decide +kernel
set_option maxRecDepth 20000 in
theorem chk_139 : chk 139 = true := by decide +kernel
set_option maxRecDepth 20000 in
theorem chk_140 : chk 140 = true := by decide +kernel
set_option maxRecDepth 20000 in
theorem chk_141 : chk 141 = true := by decide +kernel
set_option maxRecDepth 20000 in
theorem chk_142 : chk 142 = true := by decide +kernel
set_option maxRecDepth 20000 in
theorem chk_143 : chk 143 = true := by decide +kernel
set_option maxRecDepth 20000 in
theorem chk_144 : chk 144 = true := by decide +kernel
set_option maxRecDepth 20000 in
theorem chk_145 : chk 145 = true := by decide +kernel
set_option maxRecDepth 20000 in
theorem chk_146 : chk 146 = true := by decide +kernel
set_option maxRecDepth 20000 in
theorem chk_147 : chk 147 = true := by decide +kernel
set_option maxRecDepth 20000 in
theorem chk_148 : chk 148 = true := by decide +kernel
set_option maxRecDepth 20000 in
theorem chk_149 : chk 149 = true := by decide +kernel
set_option maxRecDepth 20000 in
theorem chk_150 : chk 150 = true := by decide +kernel
set_option maxRecDepth 20000 in
theorem chk_151 : chk 151 = true := by decide +kernel
set_option maxRecDepth 20000 in
theorem chk_152 : chk 152 = true := by decide +kernel
set_option maxRecDepth 20000 in
theorem chk_153 : chk 153 = true := by decide +kernel
set_option maxRecDepth 20000 in
theorem chk_154 : chk 154 = true := by decide +kernel
set_option maxRecDepth 20000 in
theorem chk_155 : chk 155 = true := by decide +kernel
set_option maxRecDepth 20000 in
theorem chk_156 : chk 156 = true := by decide +kernel
set_option maxRecDepth 20000 in
theorem chk_157 : chk 157 = true := by decide +kernel
set_option maxRecDepth 20000 in
theorem chk_158 : chk 158 = true := by decide +kernel
set_option maxRecDepth 20000 in
theorem chk_159 : chk 159 = true := by decide +kernel
theorem chk_ok : ∀ m, m < 160 → chk m = true := by
  intro m hm
  match m, hm with
  | 0, _ => exact chk_0
  | 1, _ => exact chk_1
  | 2, _ => exact chk_2
  | 3, _ => exact chk_3
  | 4, _ => exact chk_4
  | 5, _ => exact chk_5
  | 6, _ => exact chk_6
  | 7, _ => exact chk_7
  | 8, _ => exact chk_8
  | 9, _ => exact chk_9
  | 10, _ => exact chk_10
  | 11, _ => exact chk_11
  | 12, _ => exact chk_12
  | 13, _ => exact chk_13
  | 14, _ => exact chk_14
  | 15, _ => exact chk_15
  | 16, _ => exact chk_16
  | 17, _ => exact chk_17
  | 18, _ => exact chk_18
  | 19, _ => exact chk_19
  | 20, _ => exact chk_20
  | 21, _ => exact chk_21
  | 22, _ => exact chk_22
  | 23, _ => exact chk_23
  | 24, _ => exact chk_24
  | 25, _ => exact chk_25
  | 26, _ => exact chk_26
  | 27, _ => exact chk_27
  | 28, _ => exact chk_28
  | 29, _ => exact chk_29
  | 30, _ => exact chk_30
  | 31, _ => exact chk_31
  | 32, _ => exact chk_32
  | 33, _ => exact chk_33
  | 34, _ => exact chk_34
  | 35, _ => exact chk_35
  | 36, _ => exact chk_36
  | 37, _ => exact chk_37
  | 38, _ => exact chk_38
  | 39, _ => exact chk_39
  | 40, _ => exact chk_40
  | 41, _ => exact chk_41
  | 42, _ => exact chk_42
  | 43, _ => exact chk_43
  | 44, _ => exact chk_44
  | 45, _ => exact chk_45
  | 46, _ => exact chk_46
  | 47, _ => exact chk_47
  | 48, _ => exact chk_48
  | 49, _ => exact chk_49
  | 50, _ => exact chk_50
  | 51, _ => exact chk_51
  | 52, _ => exact chk_52
  | 53, _ => exact chk_53
  | 54, _ => exact chk_54
  | 55, _ => exact chk_55
  | 56, _ => exact chk_56
  | 57, _ => exact chk_57
  | 58, _ => exact chk_58
  | 59, _ => exact chk_59
  | 60, _ => exact chk_60
  | 61, _ => exact chk_61
  | 62, _ => exact chk_62
  | 63, _ => exact chk_63
  | 64, _ => exact chk_64
  | 65, _ => exact chk_65
  | 66, _ => exact chk_66
  | 67, _ => exact chk_67
  | 68, _ => exact chk_68
  | 69, _ => exact chk_69
  | 70, _ => exact chk_70
  | 71, _ => exact chk_71
  | 72, _ => exact chk_72
  | 73, _ => exact chk_73
  | 74, _ => exact chk_74
  | 75, _ => exact chk_75
  | 76, _ => exact chk_76
  | 77, _ => exact chk_77
  | 78, _ => exact chk_78
  | 79, _ => exact chk_79
  | 80, _ => exact chk_80
  | 81, _ => exact chk_81
  | 82, _ => exact chk_82
  | 83, _ => exact chk_83
  | 84, _ => exact chk_84
  | 85, _ => exact chk_85
  | 86, _ => exact chk_86
  | 87, _ => exact chk_87
  | 88, _ => exact chk_88
  | 89, _ => exact chk_89
  | 90, _ => exact chk_90
  | 91, _ => exact chk_91
  | 92, _ => exact chk_92
  | 93, _ => exact chk_93
  | 94, _ => exact chk_94
  | 95, _ => exact chk_95
  | 96, _ => exact chk_96
  | 97, _ => exact chk_97
  | 98, _ => exact chk_98
  | 99, _ => exact chk_99
  | 100, _ => exact chk_100
  | 101, _ => exact chk_101
  | 102, _ => exact chk_102
  | 103, _ => exact chk_103
  | 104, _ => exact chk_104
  | 105, _ => exact chk_105
  | 106, _ => exact chk_106
  | 107, _ => exact chk_107
  | 108, _ => exact chk_108
  | 109, _ => exact chk_109
  | 110, _ => exact chk_110
  | 111, _ => exact chk_111
  | 112, _ => exact chk_112
  | 113, _ => exact chk_113
  | 114, _ => exact chk_114
  | 115, _ => exact chk_115
  | 116, _ => exact chk_116
  | 117, _ => exact chk_117
  | 118, _ => exact chk_118
  | 119, _ => exact chk_119
  | 120, _ => exact chk_120
  | 121, _ => exact chk_121
  | 122, _ => exact chk_122
  | 123, _ => exact chk_123
  | 124, _ => exact chk_124
  | 125, _ => exact chk_125
  | 126, _ => exact chk_126
  | 127, _ => exact chk_127
  | 128, _ => exact chk_128
  | 129, _ => exact chk_129
  | 130, _ => exact chk_130
  | 131, _ => exact chk_131
  | 132, _ => exact chk_132
  | 133, _ => exact chk_133
  | 134, _ => exact chk_134
  | 135, _ => exact chk_135
  | 136, _ => exact chk_136
  | 137, _ => exact chk_137
  | 138, _ => exact chk_138
  | 139, _ => exact chk_139
  | 140, _ => exact chk_140
  | 141, _ => exact chk_141
  | 142, _ => exact chk_142
  | 143, _ => exact chk_143
  | 144, _ => exact chk_144
  | 145, _ => exact chk_145
  | 146, _ => exact chk_146
  | 147, _ => exact chk_147
  | 148, _ => exact chk_148
  | 149, _ => exact chk_149
  | 150, _ => exact chk_150
  | 151, _ => exact chk_151
  | 152, _ => exact chk_152
  | 153, _ => exact chk_153
  | 154, _ => exact chk_154
  | 155, _ => exact chk_155
  | 156, _ => exact chk_156
  | 157, _ => exact chk_157
  | 158, _ => exact chk_158
  | 159, _ => exact chk_159
  | n + 160, h => exact absurd h (by omega)
