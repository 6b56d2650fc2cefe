theorem dX8_keeps_64 : decode cX8_keeps 64 = .ok (.ifCond .ge 9, 3) := by decide +kernel
theorem dX8_keeps_67 : decode cX8_keeps 67 = .ok (.ldc2_w 73, 3) := by decide +kernel
theorem dX8_keeps_70 : decode cX8_keeps 70 = .ok (.goto 4, 3) := by decide +kernel
theorem dX8_keeps_73 : decode cX8_keeps 73 = .ok (.lconst 1, 1) := by decide +kernel
theorem dX8_keeps_74 : decode cX8_keeps 74 = .ok (.lstore 4, 2) := by decide +kernel
theorem dX8_keeps_76 : decode cX8_keeps 76 = .ok (.aload_n 0, 1) := by decide +kernel
theorem dX8_keeps_77 : decode cX8_keeps 77 = .ok (.iload_n 1, 1) := by decide +kernel
theorem dX8_keeps_78 : decode cX8_keeps 78 = .ok (.aload_n 0, 1) := by decide +kernel
theorem dX8_keeps_79 : decode cX8_keeps 79 = .ok (.getfield 112, 3) := by decide +kernel
theorem dX8_keeps_82 : decode cX8_keeps 82 = .ok (.imul, 1) := by decide +kernel
theorem dX8_keeps_83 : decode cX8_keeps 83 = .ok (.iload_n 2, 1) := by decide +kernel
theorem dX8_keeps_84 : decode cX8_keeps 84 = .ok (.aload_n 0, 1) := by decide +kernel
theorem dX8_keeps_85 : decode cX8_keeps 85 = .ok (.getfield 102, 3) := by decide +kernel
theorem dX8_keeps_88 : decode cX8_keeps 88 = .ok (.imul, 1) := by decide +kernel
theorem dX8_keeps_89 : decode cX8_keeps 89 = .ok (.isub, 1) := by decide +kernel
theorem dX8_keeps_90 : decode cX8_keeps 90 = .ok (.i2l, 1) := by decide +kernel
theorem dX8_keeps_91 : decode cX8_keeps 91 = .ok (.lload 4, 2) := by decide +kernel
theorem dX8_keeps_93 : decode cX8_keeps 93 = .ok (.lmul, 1) := by decide +kernel
theorem dX8_keeps_94 : decode cX8_keeps 94 = .ok (.iload_n 3, 1) := by decide +kernel
theorem dX8_keeps_95 : decode cX8_keeps 95 = .ok (.i2l, 1) := by decide +kernel
theorem dX8_keeps_96 : decode cX8_keeps 96 = .ok (.aload_n 0, 1) := by decide +kernel
theorem dX8_keeps_97 : decode cX8_keeps 97 = .ok (.getfield 112, 3) := by decide +kernel
theorem dX8_keeps_100 : decode cX8_keeps 100 = .ok (.i2l, 1) := by decide +kernel
theorem dX8_keeps_101 : decode cX8_keeps 101 = .ok (.lmul, 1) := by decide +kernel
theorem dX8_keeps_102 : decode cX8_keeps 102 = .ok (.iload_n 2, 1) := by decide +kernel
theorem dX8_keeps_103 : decode cX8_keeps 103 = .ok (.i2l, 1) := by decide +kernel
theorem dX8_keeps_104 : decode cX8_keeps 104 = .ok (.aload_n 0, 1) := by decide +kernel
theorem dX8_keeps_105 : decode cX8_keeps 105 = .ok (.getfield 105, 3) := by decide +kernel
theorem dX8_keeps_108 : decode cX8_keeps 108 = .ok (.i2l, 1) := by decide +kernel
theorem dX8_keeps_109 : decode cX8_keeps 109 = .ok (.lmul, 1) := by decide +kernel
theorem dX8_keeps_110 : decode cX8_keeps 110 = .ok (.lsub, 1) := by decide +kernel
theorem dX8_keeps_111 : decode cX8_keeps 111 = .ok (.lload 4, 2) := by decide +kernel
theorem dX8_keeps_113 : decode cX8_keeps 113 = .ok (.lmul, 1) := by decide +kernel
theorem dX8_keeps_114 : decode cX8_keeps 114 = .ok (.invokevirtual 108, 3) := by decide +kernel
theorem dX8_keeps_117 : decode cX8_keeps 117 = .ok (.return_, 1) := by decide +kernel
theorem dX8_isLong_0 : decode cX8_isLong 0 = .ok (.aload_n 0, 1) := by decide +kernel
theorem dX8_isLong_1 : decode cX8_isLong 1 = .ok (.getfield 82, 3) := by decide +kernel
theorem dX8_isLong_4 : decode cX8_isLong 4 = .ok (.ifCond .ne 29, 3) := by decide +kernel
theorem dX8_isLong_7 : decode cX8_isLong 7 = .ok (.aload_n 0, 1) := by decide +kernel
theorem dX8_isLong_8 : decode cX8_isLong 8 = .ok (.getfield 96, 3) := by decide +kernel
theorem dX8_isLong_11 : decode cX8_isLong 11 = .ok (.aload_n 0, 1) := by decide +kernel
theorem dX8_isLong_12 : decode cX8_isLong 12 = .ok (.getfield 86, 3) := by decide +kernel
theorem dX8_isLong_15 : decode cX8_isLong 15 = .ok (.lmul, 1) := by decide +kernel
theorem dX8_isLong_16 : decode cX8_isLong 16 = .ok (.aload_n 0, 1) := by decide +kernel
theorem dX8_isLong_17 : decode cX8_isLong 17 = .ok (.getfield 90, 3) := by decide +kernel
theorem dX8_isLong_20 : decode cX8_isLong 20 = .ok (.aload_n 0, 1) := by decide +kernel
theorem dX8_isLong_21 : decode cX8_isLong 21 = .ok (.getfield 93, 3) := by decide +kernel
theorem dX8_isLong_24 : decode cX8_isLong 24 = .ok (.lmul, 1) := by decide +kernel
theorem dX8_isLong_25 : decode cX8_isLong 25 = .ok (.lcmp, 1) := by decide +kernel
theorem dX8_isLong_26 : decode cX8_isLong 26 = .ok (.ifCond .ge 7, 3) := by decide +kernel
theorem dX8_isLong_29 : decode cX8_isLong 29 = .ok (.iconst 1, 1) := by decide +kernel
theorem dX8_isLong_30 : decode cX8_isLong 30 = .ok (.goto 4, 3) := by decide +kernel
theorem dX8_isLong_33 : decode cX8_isLong 33 = .ok (.iconst 0, 1) := by decide +kernel
theorem dX8_isLong_34 : decode cX8_isLong 34 = .ok (.ireturn, 1) := by decide +kernel
set_option maxRecDepth 20000 in
theorem ggX8_cause_X8_height : GoodIn wsX8_cause wsX8_height := goodIn_r _ [18, 1, 2, 19, 33, 34, 35, 36, 37, 38, 39, 40, 41, 42, 43, 44, 45, 46, 47, 48, 49] (by decide +kernel) (by decide +kernel)
set_option maxRecDepth 20000 in
theorem gX8_cause_X8_height : GoodIn wsX8_cause (wsV RX8 65 RX8 yX8_height wsX8_height) := goodIn_app (goodIn_of _ (by decide +kernel)) ggX8_cause_X8_height
set_option maxRecDepth 20000 in
theorem ggX8_cause_X8_keeps : GoodIn wsX8_cause wsX8_keeps := goodIn_r _ [23, 6, 3, 24, 5, 4, 25, 26, 27, 17, 28, 7, 12, 11, 9, 8, 33, 34, 35, 36, 37, 38, 39, 40, 41, 42, 43, 44, 45, 46, 47, 48, 49] (by decide +kernel) (by decide +kernel)
set_option maxRecDepth 20000 in
theorem gX8_cause_X8_keeps : GoodIn wsX8_cause (wsV RX8 117 RX8 yX8_keeps wsX8_keeps) := goodIn_app (goodIn_of _ (by decide +kernel)) ggX8_cause_X8_keeps
set_option maxRecDepth 20000 in
theorem ggX8_cause_X8_isLong : GoodIn wsX8_cause wsX8_isLong := goodIn_r _ [32, 7, 8, 12, 11, 9, 33, 34, 35, 36, 37, 38, 39, 40, 41, 42, 43, 44, 45, 46, 47, 48, 49] (by decide +kernel) (by decide +kernel)
set_option maxRecDepth 20000 in
theorem gX8_cause_X8_isLong : GoodIn wsX8_cause (wsV RX8 121 RX8 yX8_isLong wsX8_isLong) := goodIn_app (goodIn_of _ (by decide +kernel)) ggX8_cause_X8_isLong
theorem dX8_cause_0 : decode cX8_cause 0 = .ok (.aload_n 0, 1) := by decide +kernel
theorem dX8_cause_1 : decode cX8_cause 1 = .ok (.getfield 7, 3) := by decide +kernel
theorem dX8_cause_4 : decode cX8_cause 4 = .ok (.iload_n 1, 1) := by decide +kernel
theorem dX8_cause_5 : decode cX8_cause 5 = .ok (.iaload, 1) := by decide +kernel
theorem dX8_cause_6 : decode cX8_cause 6 = .ok (.aload_n 0, 1) := by decide +kernel
theorem dX8_cause_7 : decode cX8_cause 7 = .ok (.getfield 7, 3) := by decide +kernel
theorem dX8_cause_10 : decode cX8_cause 10 = .ok (.iload_n 2, 1) := by decide +kernel
theorem dX8_cause_11 : decode cX8_cause 11 = .ok (.iaload, 1) := by decide +kernel
theorem dX8_cause_12 : decode cX8_cause 12 = .ok (.if_icmp .ne 21, 3) := by decide +kernel
theorem dX8_cause_15 : decode cX8_cause 15 = .ok (.aload_n 0, 1) := by decide +kernel
theorem dX8_cause_16 : decode cX8_cause 16 = .ok (.getfield 13, 3) := by decide +kernel
theorem dX8_cause_19 : decode cX8_cause 19 = .ok (.iload_n 1, 1) := by decide +kernel
theorem dX8_cause_20 : decode cX8_cause 20 = .ok (.iaload, 1) := by decide +kernel
theorem dX8_cause_21 : decode cX8_cause 21 = .ok (.aload_n 0, 1) := by decide +kernel
theorem dX8_cause_22 : decode cX8_cause 22 = .ok (.getfield 13, 3) := by decide +kernel
theorem dX8_cause_25 : decode cX8_cause 25 = .ok (.iload_n 2, 1) := by decide +kernel
theorem dX8_cause_26 : decode cX8_cause 26 = .ok (.iaload, 1) := by decide +kernel
theorem dX8_cause_27 : decode cX8_cause 27 = .ok (.if_icmp .ne 6, 3) := by decide +kernel
theorem dX8_cause_30 : decode cX8_cause 30 = .ok (.bipush (-3), 2) := by decide +kernel
theorem dX8_cause_32 : decode cX8_cause 32 = .ok (.ireturn, 1) := by decide +kernel
theorem dX8_cause_33 : decode cX8_cause 33 = .ok (.aload_n 0, 1) := by decide +kernel
theorem dX8_cause_34 : decode cX8_cause 34 = .ok (.iconst 2, 1) := by decide +kernel
theorem dX8_cause_35 : decode cX8_cause 35 = .ok (.aload_n 0, 1) := by decide +kernel
theorem dX8_cause_36 : decode cX8_cause 36 = .ok (.getfield 7, 3) := by decide +kernel
theorem dX8_cause_39 : decode cX8_cause 39 = .ok (.iload_n 2, 1) := by decide +kernel
theorem dX8_cause_40 : decode cX8_cause 40 = .ok (.iaload, 1) := by decide +kernel
theorem dX8_cause_41 : decode cX8_cause 41 = .ok (.aload_n 0, 1) := by decide +kernel
theorem dX8_cause_42 : decode cX8_cause 42 = .ok (.getfield 7, 3) := by decide +kernel
theorem dX8_cause_45 : decode cX8_cause 45 = .ok (.iload_n 1, 1) := by decide +kernel
theorem dX8_cause_46 : decode cX8_cause 46 = .ok (.iaload, 1) := by decide +kernel
theorem dX8_cause_47 : decode cX8_cause 47 = .ok (.isub, 1) := by decide +kernel
theorem dX8_cause_48 : decode cX8_cause 48 = .ok (.imul, 1) := by decide +kernel
theorem dX8_cause_49 : decode cX8_cause 49 = .ok (.putfield 102, 3) := by decide +kernel
theorem dX8_cause_52 : decode cX8_cause 52 = .ok (.aload_n 0, 1) := by decide +kernel
theorem dX8_cause_53 : decode cX8_cause 53 = .ok (.iconst 2, 1) := by decide +kernel
theorem dX8_cause_54 : decode cX8_cause 54 = .ok (.aload_n 0, 1) := by decide +kernel
theorem dX8_cause_55 : decode cX8_cause 55 = .ok (.getfield 13, 3) := by decide +kernel
theorem dX8_cause_58 : decode cX8_cause 58 = .ok (.iload_n 2, 1) := by decide +kernel
theorem dX8_cause_59 : decode cX8_cause 59 = .ok (.iaload, 1) := by decide +kernel
theorem dX8_cause_60 : decode cX8_cause 60 = .ok (.aload_n 0, 1) := by decide +kernel
theorem dX8_cause_61 : decode cX8_cause 61 = .ok (.getfield 13, 3) := by decide +kernel
theorem dX8_cause_64 : decode cX8_cause 64 = .ok (.iload_n 1, 1) := by decide +kernel
theorem dX8_cause_65 : decode cX8_cause 65 = .ok (.iaload, 1) := by decide +kernel
theorem dX8_cause_66 : decode cX8_cause 66 = .ok (.isub, 1) := by decide +kernel
theorem dX8_cause_67 : decode cX8_cause 67 = .ok (.imul, 1) := by decide +kernel
theorem dX8_cause_68 : decode cX8_cause 68 = .ok (.putfield 112, 3) := by decide +kernel
theorem dX8_cause_71 : decode cX8_cause 71 = .ok (.aload_n 0, 1) := by decide +kernel
theorem dX8_cause_72 : decode cX8_cause 72 = .ok (.aload_n 0, 1) := by decide +kernel
theorem dX8_cause_73 : decode cX8_cause 73 = .ok (.iload_n 2, 1) := by decide +kernel
theorem dX8_cause_74 : decode cX8_cause 74 = .ok (.invokevirtual 65, 3) := by decide +kernel
theorem dX8_cause_77 : decode cX8_cause 77 = .ok (.aload_n 0, 1) := by decide +kernel
theorem dX8_cause_78 : decode cX8_cause 78 = .ok (.iload_n 1, 1) := by decide +kernel
theorem dX8_cause_79 : decode cX8_cause 79 = .ok (.invokevirtual 65, 3) := by decide +kernel
theorem dX8_cause_82 : decode cX8_cause 82 = .ok (.isub, 1) := by decide +kernel
theorem dX8_cause_83 : decode cX8_cause 83 = .ok (.putfield 105, 3) := by decide +kernel
theorem dX8_cause_86 : decode cX8_cause 86 = .ok (.aload_n 0, 1) := by decide +kernel
theorem dX8_cause_87 : decode cX8_cause 87 = .ok (.aload_n 0, 1) := by decide +kernel
theorem dX8_cause_88 : decode cX8_cause 88 = .ok (.getfield 112, 3) := by decide +kernel
theorem dX8_cause_91 : decode cX8_cause 91 = .ok (.ifCond .ne 7, 3) := by decide +kernel
theorem dX8_cause_94 : decode cX8_cause 94 = .ok (.iconst 1, 1) := by decide +kernel
theorem dX8_cause_95 : decode cX8_cause 95 = .ok (.goto 4, 3) := by decide +kernel
theorem dX8_cause_98 : decode cX8_cause 98 = .ok (.iconst 0, 1) := by decide +kernel
theorem dX8_cause_99 : decode cX8_cause 99 = .ok (.putfield 99, 3) := by decide +kernel
theorem dX8_cause_102 : decode cX8_cause 102 = .ok (.aload_n 0, 1) := by decide +kernel
theorem dX8_cause_103 : decode cX8_cause 103 = .ok (.iconst 0, 1) := by decide +kernel
theorem dX8_cause_104 : decode cX8_cause 104 = .ok (.putfield 82, 3) := by decide +kernel
theorem dX8_cause_107 : decode cX8_cause 107 = .ok (.aload_n 0, 1) := by decide +kernel
theorem dX8_cause_108 : decode cX8_cause 108 = .ok (.lconst 0, 1) := by decide +kernel
theorem dX8_cause_109 : decode cX8_cause 109 = .ok (.putfield 96, 3) := by decide +kernel
theorem dX8_cause_112 : decode cX8_cause 112 = .ok (.aload_n 0, 1) := by decide +kernel
theorem dX8_cause_113 : decode cX8_cause 113 = .ok (.lconst 1, 1) := by decide +kernel
theorem dX8_cause_114 : decode cX8_cause 114 = .ok (.putfield 93, 3) := by decide +kernel
theorem dX8_cause_117 : decode cX8_cause 117 = .ok (.aload_n 0, 1) := by decide +kernel
theorem dX8_cause_118 : decode cX8_cause 118 = .ok (.ldc2_w 115, 3) := by decide +kernel
theorem dX8_cause_121 : decode cX8_cause 121 = .ok (.putfield 90, 3) := by decide +kernel
theorem dX8_cause_124 : decode cX8_cause 124 = .ok (.aload_n 0, 1) := by decide +kernel
theorem dX8_cause_125 : decode cX8_cause 125 = .ok (.lconst 1, 1) := by decide +kernel
theorem dX8_cause_126 : decode cX8_cause 126 = .ok (.putfield 86, 3) := by decide +kernel
theorem dX8_cause_129 : decode cX8_cause 129 = .ok (.aload_n 0, 1) := by decide +kernel
theorem dX8_cause_130 : decode cX8_cause 130 = .ok (.iconst 1, 1) := by decide +kernel
theorem dX8_cause_131 : decode cX8_cause 131 = .ok (.iconst 0, 1) := by decide +kernel
theorem dX8_cause_132 : decode cX8_cause 132 = .ok (.bipush 40, 2) := by decide +kernel
theorem dX8_cause_134 : decode cX8_cause 134 = .ok (.invokevirtual 117, 3) := by decide +kernel
theorem dX8_cause_137 : decode cX8_cause 137 = .ok (.aload_n 0, 1) := by decide +kernel
theorem dX8_cause_138 : decode cX8_cause 138 = .ok (.iconst (-1), 1) := by decide +kernel
theorem dX8_cause_139 : decode cX8_cause 139 = .ok (.iconst 0, 1) := by decide +kernel
theorem dX8_cause_140 : decode cX8_cause 140 = .ok (.iconst 0, 1) := by decide +kernel
theorem dX8_cause_141 : decode cX8_cause 141 = .ok (.invokevirtual 117, 3) := by decide +kernel
theorem dX8_cause_144 : decode cX8_cause 144 = .ok (.aload_n 0, 1) := by decide +kernel
theorem dX8_cause_145 : decode cX8_cause 145 = .ok (.iconst 0, 1) := by decide +kernel
theorem dX8_cause_146 : decode cX8_cause 146 = .ok (.iconst 1, 1) := by decide +kernel
theorem dX8_cause_147 : decode cX8_cause 147 = .ok (.bipush 40, 2) := by decide +kernel
theorem dX8_cause_149 : decode cX8_cause 149 = .ok (.invokevirtual 117, 3) := by decide +kernel
theorem dX8_cause_152 : decode cX8_cause 152 = .ok (.aload_n 0, 1) := by decide +kernel
theorem dX8_cause_153 : decode cX8_cause 153 = .ok (.iconst 0, 1) := by decide +kernel
theorem dX8_cause_154 : decode cX8_cause 154 = .ok (.iconst (-1), 1) := by decide +kernel
theorem dX8_cause_155 : decode cX8_cause 155 = .ok (.iconst 0, 1) := by decide +kernel
theorem dX8_cause_156 : decode cX8_cause 156 = .ok (.invokevirtual 117, 3) := by decide +kernel
theorem dX8_cause_159 : decode cX8_cause 159 = .ok (.aload_n 0, 1) := by decide +kernel
theorem dX8_cause_160 : decode cX8_cause 160 = .ok (.invokevirtual 121, 3) := by decide +kernel
theorem dX8_cause_163 : decode cX8_cause 163 = .ok (.ifCond .ne 6, 3) := by decide +kernel
theorem dX8_cause_166 : decode cX8_cause 166 = .ok (.bipush (-2), 2) := by decide +kernel
theorem dX8_cause_168 : decode cX8_cause 168 = .ok (.ireturn, 1) := by decide +kernel
theorem dX8_cause_169 : decode cX8_cause 169 = .ok (.iconst 0, 1) := by decide +kernel
theorem dX8_cause_170 : decode cX8_cause 170 = .ok (.istore_n 3, 1) := by decide +kernel
theorem dX8_cause_171 : decode cX8_cause 171 = .ok (.iload_n 3, 1) := by decide +kernel
theorem dX8_cause_172 : decode cX8_cause 172 = .ok (.aload_n 0, 1) := by decide +kernel
theorem dX8_cause_173 : decode cX8_cause 173 = .ok (.getfield 32, 3) := by decide +kernel
theorem dX8_cause_176 : decode cX8_cause 176 = .ok (.if_icmp .ge 73, 3) := by decide +kernel
theorem dX8_cause_179 : decode cX8_cause 179 = .ok (.iload_n 3, 1) := by decide +kernel
theorem dX8_cause_180 : decode cX8_cause 180 = .ok (.iload_n 1, 1) := by decide +kernel
theorem dX8_cause_181 : decode cX8_cause 181 = .ok (.if_icmp .eq 62, 3) := by decide +kernel
theorem dX8_cause_184 : decode cX8_cause 184 = .ok (.iload_n 3, 1) := by decide +kernel
theorem dX8_cause_185 : decode cX8_cause 185 = .ok (.iload_n 2, 1) := by decide +kernel
theorem dX8_cause_186 : decode cX8_cause 186 = .ok (.if_icmp .eq 57, 3) := by decide +kernel
theorem dX8_cause_189 : decode cX8_cause 189 = .ok (.aload_n 0, 1) := by decide +kernel
theorem dX8_cause_190 : decode cX8_cause 190 = .ok (.iconst 2, 1) := by decide +kernel
theorem dX8_cause_191 : decode cX8_cause 191 = .ok (.aload_n 0, 1) := by decide +kernel
theorem dX8_cause_192 : decode cX8_cause 192 = .ok (.getfield 7, 3) := by decide +kernel
theorem dX8_cause_195 : decode cX8_cause 195 = .ok (.iload_n 3, 1) := by decide +kernel
theorem dX8_cause_196 : decode cX8_cause 196 = .ok (.iaload, 1) := by decide +kernel
theorem dX8_cause_197 : decode cX8_cause 197 = .ok (.aload_n 0, 1) := by decide +kernel
theorem dX8_cause_198 : decode cX8_cause 198 = .ok (.getfield 7, 3) := by decide +kernel
theorem dX8_cause_201 : decode cX8_cause 201 = .ok (.iload_n 1, 1) := by decide +kernel
theorem dX8_cause_202 : decode cX8_cause 202 = .ok (.iaload, 1) := by decide +kernel
theorem dX8_cause_203 : decode cX8_cause 203 = .ok (.isub, 1) := by decide +kernel
theorem dX8_cause_204 : decode cX8_cause 204 = .ok (.imul, 1) := by decide +kernel
theorem dX8_cause_205 : decode cX8_cause 205 = .ok (.iconst 2, 1) := by decide +kernel
theorem dX8_cause_206 : decode cX8_cause 206 = .ok (.aload_n 0, 1) := by decide +kernel
theorem dX8_cause_207 : decode cX8_cause 207 = .ok (.getfield 13, 3) := by decide +kernel
theorem dX8_cause_210 : decode cX8_cause 210 = .ok (.iload_n 3, 1) := by decide +kernel
theorem dX8_cause_211 : decode cX8_cause 211 = .ok (.iaload, 1) := by decide +kernel
theorem dX8_cause_212 : decode cX8_cause 212 = .ok (.aload_n 0, 1) := by decide +kernel
theorem dX8_cause_213 : decode cX8_cause 213 = .ok (.getfield 13, 3) := by decide +kernel
theorem dX8_cause_216 : decode cX8_cause 216 = .ok (.iload_n 1, 1) := by decide +kernel
theorem dX8_cause_217 : decode cX8_cause 217 = .ok (.iaload, 1) := by decide +kernel
theorem dX8_cause_218 : decode cX8_cause 218 = .ok (.isub, 1) := by decide +kernel
theorem dX8_cause_219 : decode cX8_cause 219 = .ok (.imul, 1) := by decide +kernel
theorem dX8_cause_220 : decode cX8_cause 220 = .ok (.aload_n 0, 1) := by decide +kernel
theorem dX8_cause_221 : decode cX8_cause 221 = .ok (.iload_n 3, 1) := by decide +kernel
theorem dX8_cause_222 : decode cX8_cause 222 = .ok (.invokevirtual 65, 3) := by decide +kernel
theorem dX8_cause_225 : decode cX8_cause 225 = .ok (.aload_n 0, 1) := by decide +kernel
theorem dX8_cause_226 : decode cX8_cause 226 = .ok (.iload_n 1, 1) := by decide +kernel
theorem dX8_cause_227 : decode cX8_cause 227 = .ok (.invokevirtual 65, 3) := by decide +kernel
theorem dX8_cause_230 : decode cX8_cause 230 = .ok (.isub, 1) := by decide +kernel
theorem dX8_cause_231 : decode cX8_cause 231 = .ok (.invokevirtual 117, 3) := by decide +kernel
theorem dX8_cause_234 : decode cX8_cause 234 = .ok (.aload_n 0, 1) := by decide +kernel
theorem dX8_cause_235 : decode cX8_cause 235 = .ok (.invokevirtual 121, 3) := by decide +kernel
theorem dX8_cause_238 : decode cX8_cause 238 = .ok (.ifCond .ne 5, 3) := by decide +kernel
theorem dX8_cause_241 : decode cX8_cause 241 = .ok (.iload_n 3, 1) := by decide +kernel
theorem dX8_cause_242 : decode cX8_cause 242 = .ok (.ireturn, 1) := by decide +kernel
theorem dX8_cause_243 : decode cX8_cause 243 = .ok (.iinc 3 1, 3) := by decide +kernel
theorem dX8_cause_246 : decode cX8_cause 246 = .ok (.goto (-75), 3) := by decide +kernel
theorem dX8_cause_249 : decode cX8_cause 249 = .ok (.iconst (-1), 1) := by decide +kernel
theorem dX8_cause_250 : decode cX8_cause 250 = .ok (.ireturn, 1) := by decide +kernel
set_option maxRecDepth 20000 in
theorem ggX8_hasBorder_X8_isSite : GoodIn wsX8_hasBorder wsX8_isSite := goodIn_r _ [6, 7, 8, 9, 5, 10, 45, 46, 47, 48, 49, 50, 51, 52, 53, 54, 55, 56, 57, 58, 59, 60, 61] (by decide +kernel) (by decide +kernel)
set_option maxRecDepth 20000 in
theorem gX8_hasBorder_X8_isSite : GoodIn wsX8_hasBorder (wsV RX8 39 RX8 yX8_isSite wsX8_isSite) := goodIn_app (goodIn_of _ (by decide +kernel)) ggX8_hasBorder_X8_isSite
set_option maxRecDepth 20000 in
theorem ggX8_hasBorder_X8_cause : GoodIn wsX8_hasBorder wsX8_cause := goodIn_r _ [14, 15, 16, 17, 18, 19, 20, 21, 22, 23, 24, 25, 26, 7, 27, 28, 29, 5, 30, 31, 32, 33, 34, 35, 36, 37, 38, 39, 40, 41, 42, 43, 44, 45, 46, 47, 48, 49, 50, 51, 52, 53, 54, 55, 56, 57, 58, 59, 60, 61] (by decide +kernel) (by decide +kernel)
set_option maxRecDepth 20000 in
theorem gX8_hasBorder_X8_cause : GoodIn wsX8_hasBorder (wsV RX8 125 RX8 yX8_cause wsX8_cause) := goodIn_app (goodIn_of _ (by decide +kernel)) ggX8_hasBorder_X8_cause
theorem dX8_hasBorder_0 : decode cX8_hasBorder 0 = .ok (.aload_n 0, 1) := by decide +kernel
theorem dX8_hasBorder_1 : decode cX8_hasBorder 1 = .ok (.aload_n 0, 1) := by decide +kernel
theorem dX8_hasBorder_2 : decode cX8_hasBorder 2 = .ok (.iload_n 1, 1) := by decide +kernel
theorem dX8_hasBorder_3 : decode cX8_hasBorder 3 = .ok (.invokevirtual 39, 3) := by decide +kernel
theorem dX8_hasBorder_6 : decode cX8_hasBorder 6 = .ok (.ifCond .eq 15, 3) := by decide +kernel
theorem dX8_hasBorder_9 : decode cX8_hasBorder 9 = .ok (.aload_n 0, 1) := by decide +kernel
theorem dX8_hasBorder_10 : decode cX8_hasBorder 10 = .ok (.iload_n 2, 1) := by decide +kernel
theorem dX8_hasBorder_11 : decode cX8_hasBorder 11 = .ok (.invokevirtual 39, 3) := by decide +kernel
theorem dX8_hasBorder_14 : decode cX8_hasBorder 14 = .ok (.ifCond .eq 7, 3) := by decide +kernel
theorem dX8_hasBorder_17 : decode cX8_hasBorder 17 = .ok (.iconst 0, 1) := by decide +kernel
theorem dX8_hasBorder_18 : decode cX8_hasBorder 18 = .ok (.goto 4, 3) := by decide +kernel
theorem dX8_hasBorder_21 : decode cX8_hasBorder 21 = .ok (.iconst 1, 1) := by decide +kernel
theorem dX8_hasBorder_22 : decode cX8_hasBorder 22 = .ok (.putfield 28, 3) := by decide +kernel
theorem dX8_hasBorder_25 : decode cX8_hasBorder 25 = .ok (.aload_n 0, 1) := by decide +kernel
theorem dX8_hasBorder_26 : decode cX8_hasBorder 26 = .ok (.getfield 28, 3) := by decide +kernel
theorem dX8_hasBorder_29 : decode cX8_hasBorder 29 = .ok (.ifCond .ne 17, 3) := by decide +kernel
theorem dX8_hasBorder_32 : decode cX8_hasBorder 32 = .ok (.aload_n 0, 1) := by decide +kernel
theorem dX8_hasBorder_33 : decode cX8_hasBorder 33 = .ok (.iload_n 1, 1) := by decide +kernel
theorem dX8_hasBorder_34 : decode cX8_hasBorder 34 = .ok (.iload_n 2, 1) := by decide +kernel
theorem dX8_hasBorder_35 : decode cX8_hasBorder 35 = .ok (.invokevirtual 125, 3) := by decide +kernel
theorem dX8_hasBorder_38 : decode cX8_hasBorder 38 = .ok (.iconst (-1), 1) := by decide +kernel
theorem dX8_hasBorder_39 : decode cX8_hasBorder 39 = .ok (.if_icmp .ne 7, 3) := by decide +kernel
theorem dX8_hasBorder_42 : decode cX8_hasBorder 42 = .ok (.iconst 1, 1) := by decide +kernel
theorem dX8_hasBorder_43 : decode cX8_hasBorder 43 = .ok (.goto 4, 3) := by decide +kernel
theorem dX8_hasBorder_46 : decode cX8_hasBorder 46 = .ok (.iconst 0, 1) := by decide +kernel
theorem dX8_hasBorder_47 : decode cX8_hasBorder 47 = .ok (.ireturn, 1) := by decide +kernel
set_option maxRecDepth 20000 in
theorem ggX8_why_X8_isSite : GoodIn wsX8_why wsX8_isSite := goodIn_r _ [6, 7, 8, 9, 5, 10, 45, 46, 47, 48, 49, 50, 51, 52, 53, 54, 55, 56, 57, 58, 59, 60, 61] (by decide +kernel) (by decide +kernel)
set_option maxRecDepth 20000 in
theorem gX8_why_X8_isSite : GoodIn wsX8_why (wsV RX8 39 RX8 yX8_isSite wsX8_isSite) := goodIn_app (goodIn_of _ (by decide +kernel)) ggX8_why_X8_isSite
set_option maxRecDepth 20000 in
theorem ggX8_why_X8_cause : GoodIn wsX8_why wsX8_cause := goodIn_r _ [14, 15, 16, 17, 18, 19, 20, 21, 22, 23, 24, 25, 26, 7, 27, 28, 29, 5, 30, 31, 32, 33, 34, 35, 36, 37, 38, 39, 40, 41, 42, 43, 44, 45, 46, 47, 48, 49, 50, 51, 52, 53, 54, 55, 56, 57, 58, 59, 60, 61] (by decide +kernel) (by decide +kernel)
set_option maxRecDepth 20000 in
theorem gX8_why_X8_cause : GoodIn wsX8_why (wsV RX8 125 RX8 yX8_cause wsX8_cause) := goodIn_app (goodIn_of _ (by decide +kernel)) ggX8_why_X8_cause
theorem dX8_why_0 : decode cX8_why 0 = .ok (.aload_n 0, 1) := by decide +kernel
theorem dX8_why_1 : decode cX8_why 1 = .ok (.aload_n 0, 1) := by decide +kernel
theorem dX8_why_2 : decode cX8_why 2 = .ok (.iload_n 1, 1) := by decide +kernel
theorem dX8_why_3 : decode cX8_why 3 = .ok (.invokevirtual 39, 3) := by decide +kernel
theorem dX8_why_6 : decode cX8_why 6 = .ok (.ifCond .eq 15, 3) := by decide +kernel
theorem dX8_why_9 : decode cX8_why 9 = .ok (.aload_n 0, 1) := by decide +kernel
theorem dX8_why_10 : decode cX8_why 10 = .ok (.iload_n 2, 1) := by decide +kernel
theorem dX8_why_11 : decode cX8_why 11 = .ok (.invokevirtual 39, 3) := by decide +kernel
theorem dX8_why_14 : decode cX8_why 14 = .ok (.ifCond .eq 7, 3) := by decide +kernel
theorem dX8_why_17 : decode cX8_why 17 = .ok (.iconst 0, 1) := by decide +kernel
theorem dX8_why_18 : decode cX8_why 18 = .ok (.goto 4, 3) := by decide +kernel
theorem dX8_why_21 : decode cX8_why 21 = .ok (.iconst 1, 1) := by decide +kernel
theorem dX8_why_22 : decode cX8_why 22 = .ok (.putfield 28, 3) := by decide +kernel
theorem dX8_why_25 : decode cX8_why 25 = .ok (.aload_n 0, 1) := by decide +kernel
theorem dX8_why_26 : decode cX8_why 26 = .ok (.getfield 28, 3) := by decide +kernel
theorem dX8_why_29 : decode cX8_why 29 = .ok (.ifCond .le 7, 3) := by decide +kernel
theorem dX8_why_32 : decode cX8_why 32 = .ok (.iconst 0, 1) := by decide +kernel
theorem dX8_why_33 : decode cX8_why 33 = .ok (.goto 9, 3) := by decide +kernel
theorem dX8_why_36 : decode cX8_why 36 = .ok (.aload_n 0, 1) := by decide +kernel
theorem dX8_why_37 : decode cX8_why 37 = .ok (.iload_n 1, 1) := by decide +kernel
theorem dX8_why_38 : decode cX8_why 38 = .ok (.iload_n 2, 1) := by decide +kernel
theorem dX8_why_39 : decode cX8_why 39 = .ok (.invokevirtual 125, 3) := by decide +kernel
theorem dX8_why_42 : decode cX8_why 42 = .ok (.ireturn, 1) := by decide +kernel
theorem dX8_common_0 : decode cX8_common 0 = .ok (.lload_n 0, 1) := by decide +kernel
theorem dX8_common_1 : decode cX8_common 1 = .ok (.lconst 0, 1) := by decide +kernel
theorem dX8_common_2 : decode cX8_common 2 = .ok (.lcmp, 1) := by decide +kernel
theorem dX8_common_3 : decode cX8_common 3 = .ok (.ifCond .ge 8, 3) := by decide +kernel
theorem dX8_common_6 : decode cX8_common 6 = .ok (.lload_n 0, 1) := by decide +kernel
theorem dX8_common_7 : decode cX8_common 7 = .ok (.lneg, 1) := by decide +kernel
theorem dX8_common_8 : decode cX8_common 8 = .ok (.goto 4, 3) := by decide +kernel
theorem dX8_common_11 : decode cX8_common 11 = .ok (.lload_n 0, 1) := by decide +kernel
theorem dX8_common_12 : decode cX8_common 12 = .ok (.lstore 4, 2) := by decide +kernel
theorem dX8_common_14 : decode cX8_common 14 = .ok (.lload_n 2, 1) := by decide +kernel
theorem dX8_common_15 : decode cX8_common 15 = .ok (.lconst 0, 1) := by decide +kernel
theorem dX8_common_16 : decode cX8_common 16 = .ok (.lcmp, 1) := by decide +kernel
theorem dX8_common_17 : decode cX8_common 17 = .ok (.ifCond .ge 8, 3) := by decide +kernel
theorem dX8_common_20 : decode cX8_common 20 = .ok (.lload_n 2, 1) := by decide +kernel
theorem dX8_common_21 : decode cX8_common 21 = .ok (.lneg, 1) := by decide +kernel
theorem dX8_common_22 : decode cX8_common 22 = .ok (.goto 4, 3) := by decide +kernel
theorem dX8_common_25 : decode cX8_common 25 = .ok (.lload_n 2, 1) := by decide +kernel
theorem dX8_common_26 : decode cX8_common 26 = .ok (.lstore 6, 2) := by decide +kernel
theorem dX8_common_28 : decode cX8_common 28 = .ok (.lload 6, 2) := by decide +kernel
theorem dX8_common_30 : decode cX8_common 30 = .ok (.lconst 0, 1) := by decide +kernel
theorem dX8_common_31 : decode cX8_common 31 = .ok (.lcmp, 1) := by decide +kernel
theorem dX8_common_32 : decode cX8_common 32 = .ok (.ifCond .eq 21, 3) := by decide +kernel
theorem dX8_common_35 : decode cX8_common 35 = .ok (.lload 4, 2) := by decide +kernel
theorem dX8_common_37 : decode cX8_common 37 = .ok (.lload 6, 2) := by decide +kernel
theorem dX8_common_39 : decode cX8_common 39 = .ok (.lrem, 1) := by decide +kernel
theorem dX8_common_40 : decode cX8_common 40 = .ok (.lstore 8, 2) := by decide +kernel
theorem dX8_common_42 : decode cX8_common 42 = .ok (.lload 6, 2) := by decide +kernel
theorem dX8_common_44 : decode cX8_common 44 = .ok (.lstore 4, 2) := by decide +kernel
theorem dX8_common_46 : decode cX8_common 46 = .ok (.lload 8, 2) := by decide +kernel
theorem dX8_common_48 : decode cX8_common 48 = .ok (.lstore 6, 2) := by decide +kernel
theorem dX8_common_50 : decode cX8_common 50 = .ok (.goto (-22), 3) := by decide +kernel
theorem dX8_common_53 : decode cX8_common 53 = .ok (.lload 4, 2) := by decide +kernel
theorem dX8_common_55 : decode cX8_common 55 = .ok (.lreturn, 1) := by decide +kernel
set_option maxRecDepth 20000 in
theorem ggX8_told_X8_common : GoodIn wsX8_told wsX8_common := goodIn_r _ [4] (by decide +kernel) (by decide +kernel)
set_option maxRecDepth 20000 in
theorem gX8_told_X8_common : GoodIn wsX8_told (va_wsS RX8 128 yX8_common wsX8_common) := goodIn_app (goodIn_of _ (by decide +kernel)) ggX8_told_X8_common
theorem dX8_told_0 : decode cX8_told 0 = .ok (.lload_n 2, 1) := by decide +kernel
theorem dX8_told_1 : decode cX8_told 1 = .ok (.lconst 0, 1) := by decide +kernel
theorem dX8_told_2 : decode cX8_told 2 = .ok (.lcmp, 1) := by decide +kernel
theorem dX8_told_3 : decode cX8_told 3 = .ok (.ifCond .ge 12, 3) := by decide +kernel
theorem dX8_told_6 : decode cX8_told 6 = .ok (.lload_n 0, 1) := by decide +kernel
theorem dX8_told_7 : decode cX8_told 7 = .ok (.lload_n 2, 1) := by decide +kernel
theorem dX8_told_8 : decode cX8_told 8 = .ok (.invokestatic 128, 3) := by decide +kernel
theorem dX8_told_11 : decode cX8_told 11 = .ok (.lneg, 1) := by decide +kernel
theorem dX8_told_12 : decode cX8_told 12 = .ok (.goto 8, 3) := by decide +kernel
theorem dX8_told_15 : decode cX8_told 15 = .ok (.lload_n 0, 1) := by decide +kernel
theorem dX8_told_16 : decode cX8_told 16 = .ok (.lload_n 2, 1) := by decide +kernel
theorem dX8_told_17 : decode cX8_told 17 = .ok (.invokestatic 128, 3) := by decide +kernel
theorem dX8_told_20 : decode cX8_told 20 = .ok (.lstore 5, 2) := by decide +kernel
theorem dX8_told_22 : decode cX8_told 22 = .ok (.iload 4, 2) := by decide +kernel
theorem dX8_told_24 : decode cX8_told 24 = .ok (.ifCond .eq 10, 3) := by decide +kernel
theorem dX8_told_27 : decode cX8_told 27 = .ok (.lload_n 0, 1) := by decide +kernel
theorem dX8_told_28 : decode cX8_told 28 = .ok (.lload 5, 2) := by decide +kernel
theorem dX8_told_30 : decode cX8_told 30 = .ok (.ldiv, 1) := by decide +kernel
theorem dX8_told_31 : decode cX8_told 31 = .ok (.goto 7, 3) := by decide +kernel
theorem dX8_told_34 : decode cX8_told 34 = .ok (.lload_n 2, 1) := by decide +kernel
theorem dX8_told_35 : decode cX8_told 35 = .ok (.lload 5, 2) := by decide +kernel
theorem dX8_told_37 : decode cX8_told 37 = .ok (.ldiv, 1) := by decide +kernel
theorem dX8_told_38 : decode cX8_told 38 = .ok (.lreturn, 1) := by decide +kernel
set_option maxRecDepth 20000 in
theorem ggX8_ofEnd_X8_isSite : GoodIn wsX8_ofEnd wsX8_isSite := goodIn_r _ [14, 15, 16, 17, 13, 18, 51, 52, 53, 54, 55, 56, 57, 58, 59, 60, 61, 62, 63, 64, 65, 66, 67] (by decide +kernel) (by decide +kernel)
set_option maxRecDepth 20000 in
theorem gX8_ofEnd_X8_isSite : GoodIn wsX8_ofEnd (wsV RX8 39 RX8 yX8_isSite wsX8_isSite) := goodIn_app (goodIn_of _ (by decide +kernel)) ggX8_ofEnd_X8_isSite
set_option maxRecDepth 20000 in
theorem ggX8_ofEnd_X8_in : GoodIn wsX8_ofEnd wsX8_in := goodIn_r _ [18] (by decide +kernel) (by decide +kernel)
set_option maxRecDepth 20000 in
theorem gX8_ofEnd_X8_in : GoodIn wsX8_ofEnd (va_wsS RX8 35 yX8_in wsX8_in) := goodIn_app (goodIn_of _ (by decide +kernel)) ggX8_ofEnd_X8_in
set_option maxRecDepth 20000 in
theorem ggX8_ofEnd_X8_cause : GoodIn wsX8_ofEnd wsX8_cause := goodIn_r _ [22, 23, 24, 8, 9, 7, 6, 25, 2, 4, 26, 3, 5, 15, 27, 28, 29, 13, 30, 31, 32, 33, 34, 35, 36, 37, 38, 39, 40, 41, 42, 43, 44, 51, 52, 53, 54, 55, 56, 57, 58, 59, 60, 61, 62, 63, 64, 65, 66, 67] (by decide +kernel) (by decide +kernel)
set_option maxRecDepth 20000 in
theorem gX8_ofEnd_X8_cause : GoodIn wsX8_ofEnd (wsV RX8 125 RX8 yX8_cause wsX8_cause) := goodIn_app (goodIn_of _ (by decide +kernel)) ggX8_ofEnd_X8_cause
set_option maxRecDepth 20000 in
theorem ggX8_ofEnd_X8_told : GoodIn wsX8_ofEnd wsX8_told := goodIn_r _ [47, 48, 49, 13, 50] (by decide +kernel) (by decide +kernel)
set_option maxRecDepth 20000 in
theorem gX8_ofEnd_X8_told : GoodIn wsX8_ofEnd (va_wsS RX8 132 yX8_told wsX8_told) := goodIn_app (goodIn_of _ (by decide +kernel)) ggX8_ofEnd_X8_told
theorem dX8_ofEnd_0 : decode cX8_ofEnd 0 = .ok (.aload_n 0, 1) := by decide +kernel
theorem dX8_ofEnd_1 : decode cX8_ofEnd 1 = .ok (.aload_n 0, 1) := by decide +kernel
theorem dX8_ofEnd_2 : decode cX8_ofEnd 2 = .ok (.iload_n 1, 1) := by decide +kernel
theorem dX8_ofEnd_3 : decode cX8_ofEnd 3 = .ok (.invokevirtual 39, 3) := by decide +kernel
theorem dX8_ofEnd_6 : decode cX8_ofEnd 6 = .ok (.ifCond .eq 11, 3) := by decide +kernel
theorem dX8_ofEnd_9 : decode cX8_ofEnd 9 = .ok (.aload_n 0, 1) := by decide +kernel
theorem dX8_ofEnd_10 : decode cX8_ofEnd 10 = .ok (.iload_n 2, 1) := by decide +kernel
theorem dX8_ofEnd_11 : decode cX8_ofEnd 11 = .ok (.invokevirtual 39, 3) := by decide +kernel
theorem dX8_ofEnd_14 : decode cX8_ofEnd 14 = .ok (.ifCond .ne 7, 3) := by decide +kernel
theorem dX8_ofEnd_17 : decode cX8_ofEnd 17 = .ok (.iconst 1, 1) := by decide +kernel
theorem dX8_ofEnd_18 : decode cX8_ofEnd 18 = .ok (.goto 41, 3) := by decide +kernel
theorem dX8_ofEnd_21 : decode cX8_ofEnd 21 = .ok (.iload_n 3, 1) := by decide +kernel
theorem dX8_ofEnd_22 : decode cX8_ofEnd 22 = .ok (.iconst 0, 1) := by decide +kernel
theorem dX8_ofEnd_23 : decode cX8_ofEnd 23 = .ok (.iconst 1, 1) := by decide +kernel
theorem dX8_ofEnd_24 : decode cX8_ofEnd 24 = .ok (.invokestatic 35, 3) := by decide +kernel
theorem dX8_ofEnd_27 : decode cX8_ofEnd 27 = .ok (.ifCond .eq 13, 3) := by decide +kernel
theorem dX8_ofEnd_30 : decode cX8_ofEnd 30 = .ok (.iload 4, 2) := by decide +kernel
theorem dX8_ofEnd_32 : decode cX8_ofEnd 32 = .ok (.iconst 0, 1) := by decide +kernel
theorem dX8_ofEnd_33 : decode cX8_ofEnd 33 = .ok (.iconst 3, 1) := by decide +kernel
theorem dX8_ofEnd_34 : decode cX8_ofEnd 34 = .ok (.invokestatic 35, 3) := by decide +kernel
theorem dX8_ofEnd_37 : decode cX8_ofEnd 37 = .ok (.ifCond .ne 7, 3) := by decide +kernel
theorem dX8_ofEnd_40 : decode cX8_ofEnd 40 = .ok (.iconst 2, 1) := by decide +kernel
theorem dX8_ofEnd_41 : decode cX8_ofEnd 41 = .ok (.goto 18, 3) := by decide +kernel
theorem dX8_ofEnd_44 : decode cX8_ofEnd 44 = .ok (.aload_n 0, 1) := by decide +kernel
theorem dX8_ofEnd_45 : decode cX8_ofEnd 45 = .ok (.iload_n 1, 1) := by decide +kernel
theorem dX8_ofEnd_46 : decode cX8_ofEnd 46 = .ok (.iload_n 2, 1) := by decide +kernel
theorem dX8_ofEnd_47 : decode cX8_ofEnd 47 = .ok (.invokevirtual 125, 3) := by decide +kernel
theorem dX8_ofEnd_50 : decode cX8_ofEnd 50 = .ok (.iconst (-1), 1) := by decide +kernel
theorem dX8_ofEnd_51 : decode cX8_ofEnd 51 = .ok (.if_icmp .eq 7, 3) := by decide +kernel
theorem dX8_ofEnd_54 : decode cX8_ofEnd 54 = .ok (.iconst 3, 1) := by decide +kernel
theorem dX8_ofEnd_55 : decode cX8_ofEnd 55 = .ok (.goto 4, 3) := by decide +kernel
theorem dX8_ofEnd_58 : decode cX8_ofEnd 58 = .ok (.iconst 0, 1) := by decide +kernel
theorem dX8_ofEnd_59 : decode cX8_ofEnd 59 = .ok (.putfield 28, 3) := by decide +kernel
theorem dX8_ofEnd_62 : decode cX8_ofEnd 62 = .ok (.aload_n 0, 1) := by decide +kernel
theorem dX8_ofEnd_63 : decode cX8_ofEnd 63 = .ok (.getfield 28, 3) := by decide +kernel
theorem dX8_ofEnd_66 : decode cX8_ofEnd 66 = .ok (.ifCond .le 5, 3) := by decide +kernel
theorem dX8_ofEnd_69 : decode cX8_ofEnd 69 = .ok (.lconst 0, 1) := by decide +kernel
theorem dX8_ofEnd_70 : decode cX8_ofEnd 70 = .ok (.lreturn, 1) := by decide +kernel
theorem dX8_ofEnd_71 : decode cX8_ofEnd 71 = .ok (.iload_n 3, 1) := by decide +kernel
theorem dX8_ofEnd_72 : decode cX8_ofEnd 72 = .ok (.ifCond .ne 10, 3) := by decide +kernel
theorem dX8_ofEnd_75 : decode cX8_ofEnd 75 = .ok (.aload_n 0, 1) := by decide +kernel
theorem dX8_ofEnd_76 : decode cX8_ofEnd 76 = .ok (.getfield 96, 3) := by decide +kernel
theorem dX8_ofEnd_79 : decode cX8_ofEnd 79 = .ok (.goto 7, 3) := by decide +kernel
theorem dX8_ofEnd_82 : decode cX8_ofEnd 82 = .ok (.aload_n 0, 1) := by decide +kernel
theorem dX8_ofEnd_83 : decode cX8_ofEnd 83 = .ok (.getfield 90, 3) := by decide +kernel
theorem dX8_ofEnd_86 : decode cX8_ofEnd 86 = .ok (.lstore 5, 2) := by decide +kernel
theorem dX8_ofEnd_88 : decode cX8_ofEnd 88 = .ok (.iload_n 3, 1) := by decide +kernel
theorem dX8_ofEnd_89 : decode cX8_ofEnd 89 = .ok (.ifCond .ne 10, 3) := by decide +kernel
theorem dX8_ofEnd_92 : decode cX8_ofEnd 92 = .ok (.aload_n 0, 1) := by decide +kernel
theorem dX8_ofEnd_93 : decode cX8_ofEnd 93 = .ok (.getfield 93, 3) := by decide +kernel
theorem dX8_ofEnd_96 : decode cX8_ofEnd 96 = .ok (.goto 7, 3) := by decide +kernel
theorem dX8_ofEnd_99 : decode cX8_ofEnd 99 = .ok (.aload_n 0, 1) := by decide +kernel
theorem dX8_ofEnd_100 : decode cX8_ofEnd 100 = .ok (.getfield 86, 3) := by decide +kernel
theorem dX8_ofEnd_103 : decode cX8_ofEnd 103 = .ok (.lstore 7, 2) := by decide +kernel
theorem dX8_ofEnd_105 : decode cX8_ofEnd 105 = .ok (.iload 4, 2) := by decide +kernel
theorem dX8_ofEnd_107 : decode cX8_ofEnd 107 = .ok (.iconst 2, 1) := by decide +kernel
theorem dX8_ofEnd_108 : decode cX8_ofEnd 108 = .ok (.irem, 1) := by decide +kernel
theorem dX8_ofEnd_109 : decode cX8_ofEnd 109 = .ok (.ifCond .ne 7, 3) := by decide +kernel
theorem dX8_ofEnd_112 : decode cX8_ofEnd 112 = .ok (.iconst 1, 1) := by decide +kernel
theorem dX8_ofEnd_113 : decode cX8_ofEnd 113 = .ok (.goto 4, 3) := by decide +kernel
theorem dX8_ofEnd_116 : decode cX8_ofEnd 116 = .ok (.iconst 0, 1) := by decide +kernel
theorem dX8_ofEnd_117 : decode cX8_ofEnd 117 = .ok (.istore 9, 2) := by decide +kernel
theorem dX8_ofEnd_119 : decode cX8_ofEnd 119 = .ok (.iload 4, 2) := by decide +kernel
theorem dX8_ofEnd_121 : decode cX8_ofEnd 121 = .ok (.iconst 2, 1) := by decide +kernel
theorem dX8_ofEnd_122 : decode cX8_ofEnd 122 = .ok (.idiv, 1) := by decide +kernel
theorem dX8_ofEnd_123 : decode cX8_ofEnd 123 = .ok (.aload_n 0, 1) := by decide +kernel
theorem dX8_ofEnd_124 : decode cX8_ofEnd 124 = .ok (.getfield 99, 3) := by decide +kernel
theorem dX8_ofEnd_127 : decode cX8_ofEnd 127 = .ok (.ifCond .eq 7, 3) := by decide +kernel
theorem dX8_ofEnd_130 : decode cX8_ofEnd 130 = .ok (.iconst 1, 1) := by decide +kernel
theorem dX8_ofEnd_131 : decode cX8_ofEnd 131 = .ok (.goto 4, 3) := by decide +kernel
theorem dX8_ofEnd_134 : decode cX8_ofEnd 134 = .ok (.iconst 0, 1) := by decide +kernel
theorem dX8_ofEnd_135 : decode cX8_ofEnd 135 = .ok (.if_icmp .ne 13, 3) := by decide +kernel
theorem dX8_ofEnd_138 : decode cX8_ofEnd 138 = .ok (.lload 5, 2) := by decide +kernel
theorem dX8_ofEnd_140 : decode cX8_ofEnd 140 = .ok (.lload 7, 2) := by decide +kernel
theorem dX8_ofEnd_142 : decode cX8_ofEnd 142 = .ok (.iload 9, 2) := by decide +kernel
theorem dX8_ofEnd_144 : decode cX8_ofEnd 144 = .ok (.invokestatic 132, 3) := by decide +kernel
theorem dX8_ofEnd_147 : decode cX8_ofEnd 147 = .ok (.lreturn, 1) := by decide +kernel
theorem dX8_ofEnd_148 : decode cX8_ofEnd 148 = .ok (.aload_n 0, 1) := by decide +kernel
theorem dX8_ofEnd_149 : decode cX8_ofEnd 149 = .ok (.getfield 99, 3) := by decide +kernel
theorem dX8_ofEnd_152 : decode cX8_ofEnd 152 = .ok (.ifCond .eq 21, 3) := by decide +kernel
theorem dX8_ofEnd_155 : decode cX8_ofEnd 155 = .ok (.aload_n 0, 1) := by decide +kernel
theorem dX8_ofEnd_156 : decode cX8_ofEnd 156 = .ok (.getfield 105, 3) := by decide +kernel
theorem dX8_ofEnd_159 : decode cX8_ofEnd 159 = .ok (.i2l, 1) := by decide +kernel
theorem dX8_ofEnd_160 : decode cX8_ofEnd 160 = .ok (.aload_n 0, 1) := by decide +kernel
theorem dX8_ofEnd_161 : decode cX8_ofEnd 161 = .ok (.getfield 102, 3) := by decide +kernel
theorem dX8_ofEnd_164 : decode cX8_ofEnd 164 = .ok (.i2l, 1) := by decide +kernel
theorem dX8_ofEnd_165 : decode cX8_ofEnd 165 = .ok (.iload 9, 2) := by decide +kernel
theorem dX8_ofEnd_167 : decode cX8_ofEnd 167 = .ok (.invokestatic 132, 3) := by decide +kernel
theorem dX8_ofEnd_170 : decode cX8_ofEnd 170 = .ok (.goto 33, 3) := by decide +kernel
theorem dX8_ofEnd_173 : decode cX8_ofEnd 173 = .ok (.aload_n 0, 1) := by decide +kernel
theorem dX8_ofEnd_174 : decode cX8_ofEnd 174 = .ok (.getfield 105, 3) := by decide +kernel
theorem dX8_ofEnd_177 : decode cX8_ofEnd 177 = .ok (.i2l, 1) := by decide +kernel
theorem dX8_ofEnd_178 : decode cX8_ofEnd 178 = .ok (.lload 7, 2) := by decide +kernel
theorem dX8_ofEnd_180 : decode cX8_ofEnd 180 = .ok (.lmul, 1) := by decide +kernel
theorem dX8_ofEnd_181 : decode cX8_ofEnd 181 = .ok (.aload_n 0, 1) := by decide +kernel
theorem dX8_ofEnd_182 : decode cX8_ofEnd 182 = .ok (.getfield 102, 3) := by decide +kernel
theorem dX8_ofEnd_185 : decode cX8_ofEnd 185 = .ok (.i2l, 1) := by decide +kernel
theorem dX8_ofEnd_186 : decode cX8_ofEnd 186 = .ok (.lload 5, 2) := by decide +kernel
theorem dX8_ofEnd_188 : decode cX8_ofEnd 188 = .ok (.lmul, 1) := by decide +kernel
theorem dX8_ofEnd_189 : decode cX8_ofEnd 189 = .ok (.lsub, 1) := by decide +kernel
theorem dX8_ofEnd_190 : decode cX8_ofEnd 190 = .ok (.aload_n 0, 1) := by decide +kernel
theorem dX8_ofEnd_191 : decode cX8_ofEnd 191 = .ok (.getfield 112, 3) := by decide +kernel
theorem dX8_ofEnd_194 : decode cX8_ofEnd 194 = .ok (.i2l, 1) := by decide +kernel
theorem dX8_ofEnd_195 : decode cX8_ofEnd 195 = .ok (.lload 7, 2) := by decide +kernel
theorem dX8_ofEnd_197 : decode cX8_ofEnd 197 = .ok (.lmul, 1) := by decide +kernel
theorem dX8_ofEnd_198 : decode cX8_ofEnd 198 = .ok (.iload 9, 2) := by decide +kernel
theorem dX8_ofEnd_200 : decode cX8_ofEnd 200 = .ok (.invokestatic 132, 3) := by decide +kernel
theorem dX8_ofEnd_203 : decode cX8_ofEnd 203 = .ok (.lreturn, 1) := by decide +kernel
set_option maxRecDepth 20000 in
theorem ggX8_beside_X8_isSite : GoodIn wsX8_beside wsX8_isSite := goodIn_r _ [7, 2, 8, 9, 6, 10, 45, 46, 47, 48, 49, 50, 51, 52, 53, 54, 55, 56, 57, 58, 59, 60, 61] (by decide +kernel) (by decide +kernel)
set_option maxRecDepth 20000 in
theorem gX8_beside_X8_isSite : GoodIn wsX8_beside (wsV RX8 39 RX8 yX8_isSite wsX8_isSite) := goodIn_app (goodIn_of _ (by decide +kernel)) ggX8_beside_X8_isSite
set_option maxRecDepth 20000 in
theorem ggX8_beside_X8_cause : GoodIn wsX8_beside wsX8_cause := goodIn_r _ [14, 15, 16, 17, 18, 19, 20, 21, 22, 23, 24, 25, 26, 2, 27, 28, 29, 6, 30, 31, 32, 33, 34, 35, 36, 37, 38, 39, 40, 41, 42, 43, 44, 45, 46, 47, 48, 49, 50, 51, 52, 53, 54, 55, 56, 57, 58, 59, 60, 61] (by decide +kernel) (by decide +kernel)
set_option maxRecDepth 20000 in
theorem gX8_beside_X8_cause : GoodIn wsX8_beside (wsV RX8 125 RX8 yX8_cause wsX8_cause) := goodIn_app (goodIn_of _ (by decide +kernel)) ggX8_beside_X8_cause
theorem dX8_beside_0 : decode cX8_beside 0 = .ok (.aload_n 0, 1) := by decide +kernel
theorem dX8_beside_1 : decode cX8_beside 1 = .ok (.aload_n 0, 1) := by decide +kernel
theorem dX8_beside_2 : decode cX8_beside 2 = .ok (.iload_n 1, 1) := by decide +kernel
theorem dX8_beside_3 : decode cX8_beside 3 = .ok (.invokevirtual 39, 3) := by decide +kernel
theorem dX8_beside_6 : decode cX8_beside 6 = .ok (.ifCond .eq 7, 3) := by decide +kernel
theorem dX8_beside_9 : decode cX8_beside 9 = .ok (.iconst 0, 1) := by decide +kernel
theorem dX8_beside_10 : decode cX8_beside 10 = .ok (.goto 4, 3) := by decide +kernel
theorem dX8_beside_13 : decode cX8_beside 13 = .ok (.iconst 1, 1) := by decide +kernel
theorem dX8_beside_14 : decode cX8_beside 14 = .ok (.putfield 28, 3) := by decide +kernel
theorem dX8_beside_17 : decode cX8_beside 17 = .ok (.iconst 0, 1) := by decide +kernel
theorem dX8_beside_18 : decode cX8_beside 18 = .ok (.istore_n 2, 1) := by decide +kernel
theorem dX8_beside_19 : decode cX8_beside 19 = .ok (.iconst 0, 1) := by decide +kernel
theorem dX8_beside_20 : decode cX8_beside 20 = .ok (.istore_n 3, 1) := by decide +kernel
theorem dX8_beside_21 : decode cX8_beside 21 = .ok (.iload_n 3, 1) := by decide +kernel
theorem dX8_beside_22 : decode cX8_beside 22 = .ok (.aload_n 0, 1) := by decide +kernel
theorem dX8_beside_23 : decode cX8_beside 23 = .ok (.getfield 32, 3) := by decide +kernel
theorem dX8_beside_26 : decode cX8_beside 26 = .ok (.if_icmp .ge 34, 3) := by decide +kernel
theorem dX8_beside_29 : decode cX8_beside 29 = .ok (.aload_n 0, 1) := by decide +kernel
theorem dX8_beside_30 : decode cX8_beside 30 = .ok (.getfield 28, 3) := by decide +kernel
theorem dX8_beside_33 : decode cX8_beside 33 = .ok (.ifCond .ne 27, 3) := by decide +kernel
theorem dX8_beside_36 : decode cX8_beside 36 = .ok (.iload_n 2, 1) := by decide +kernel
theorem dX8_beside_37 : decode cX8_beside 37 = .ok (.aload_n 0, 1) := by decide +kernel
theorem dX8_beside_38 : decode cX8_beside 38 = .ok (.iload_n 1, 1) := by decide +kernel
theorem dX8_beside_39 : decode cX8_beside 39 = .ok (.iload_n 3, 1) := by decide +kernel
theorem dX8_beside_40 : decode cX8_beside 40 = .ok (.invokevirtual 125, 3) := by decide +kernel
theorem dX8_beside_43 : decode cX8_beside 43 = .ok (.iconst (-1), 1) := by decide +kernel
theorem dX8_beside_44 : decode cX8_beside 44 = .ok (.if_icmp .ne 7, 3) := by decide +kernel
theorem dX8_beside_47 : decode cX8_beside 47 = .ok (.iconst 1, 1) := by decide +kernel
theorem dX8_beside_48 : decode cX8_beside 48 = .ok (.goto 4, 3) := by decide +kernel
theorem dX8_beside_51 : decode cX8_beside 51 = .ok (.iconst 0, 1) := by decide +kernel
theorem dX8_beside_52 : decode cX8_beside 52 = .ok (.iadd, 1) := by decide +kernel
theorem dX8_beside_53 : decode cX8_beside 53 = .ok (.istore_n 2, 1) := by decide +kernel
theorem dX8_beside_54 : decode cX8_beside 54 = .ok (.iinc 3 1, 3) := by decide +kernel
theorem dX8_beside_57 : decode cX8_beside 57 = .ok (.goto (-36), 3) := by decide +kernel
theorem dX8_beside_60 : decode cX8_beside 60 = .ok (.iload_n 2, 1) := by decide +kernel
theorem dX8_beside_61 : decode cX8_beside 61 = .ok (.ireturn, 1) := by decide +kernel
set_option maxRecDepth 20000 in
theorem ggX8_disorder_X8_counts : GoodIn wsX8_disorder wsX8_counts := goodIn_r _ [6, 7, 8, 9, 10, 11, 12, 5, 13, 14, 15, 16, 17, 18, 19, 20, 21, 22, 23, 24, 25, 26, 27, 28, 29, 30, 31, 32, 33, 34, 35, 36, 37, 38, 39, 40] (by decide +kernel) (by decide +kernel)
set_option maxRecDepth 20000 in
theorem gX8_disorder_X8_counts : GoodIn wsX8_disorder (wsV RX8 55 RX8 yX8_counts wsX8_counts) := goodIn_app (goodIn_of _ (by decide +kernel)) ggX8_disorder_X8_counts
theorem dX8_disorder_0 : decode cX8_disorder 0 = .ok (.aload_n 0, 1) := by decide +kernel
theorem dX8_disorder_1 : decode cX8_disorder 1 = .ok (.iconst 0, 1) := by decide +kernel
theorem dX8_disorder_2 : decode cX8_disorder 2 = .ok (.putfield 28, 3) := by decide +kernel
theorem dX8_disorder_5 : decode cX8_disorder 5 = .ok (.aload_n 0, 1) := by decide +kernel
theorem dX8_disorder_6 : decode cX8_disorder 6 = .ok (.invokevirtual 55, 3) := by decide +kernel
theorem dX8_disorder_9 : decode cX8_disorder 9 = .ok (.ireturn, 1) := by decide +kernel
set_option maxRecDepth 20000 in
theorem ggX8_would_X8_misses : GoodIn wsX8_would wsX8_misses := goodIn_r _ [9, 2, 10, 11, 8, 12, 36, 37, 38, 39, 40, 41, 42, 43, 44, 45, 46, 47, 48, 49, 50, 51, 52] (by decide +kernel) (by decide +kernel)
set_option maxRecDepth 20000 in
theorem gX8_would_X8_misses : GoodIn wsX8_would (wsV RX8 59 RX8 yX8_misses wsX8_misses) := goodIn_app (goodIn_of _ (by decide +kernel)) ggX8_would_X8_misses
set_option maxRecDepth 20000 in
theorem ggX8_would_X8_balances : GoodIn wsX8_would wsX8_balances := goodIn_r _ [16, 2, 17, 18, 4, 19, 20, 21, 8, 22, 23, 24, 25, 26, 27, 28, 29, 30, 31, 32, 33, 34, 35, 36, 37, 38, 39, 40, 41, 42, 43, 44, 45, 46, 47, 48, 49, 50, 51, 52] (by decide +kernel) (by decide +kernel)
set_option maxRecDepth 20000 in
theorem gX8_would_X8_balances : GoodIn wsX8_would (wsV RX8 62 RX8 yX8_balances wsX8_balances) := goodIn_app (goodIn_of _ (by decide +kernel)) ggX8_would_X8_balances
set_option maxRecDepth 20000 in
theorem ggX8_would_X8_counts : GoodIn wsX8_would wsX8_counts := goodIn_r _ [22, 2, 17, 18, 23, 24, 25, 8, 26, 27, 28, 29, 30, 31, 32, 4, 33, 34, 35, 36, 37, 38, 39, 40, 41, 42, 43, 44, 45, 46, 47, 48, 49, 50, 51, 52] (by decide +kernel) (by decide +kernel)
set_option maxRecDepth 20000 in
theorem gX8_would_X8_counts : GoodIn wsX8_would (wsV RX8 55 RX8 yX8_counts wsX8_counts) := goodIn_app (goodIn_of _ (by decide +kernel)) ggX8_would_X8_counts
theorem dX8_would_0 : decode cX8_would 0 = .ok (.aload_n 0, 1) := by decide +kernel
theorem dX8_would_1 : decode cX8_would 1 = .ok (.aload_n 0, 1) := by decide +kernel
theorem dX8_would_2 : decode cX8_would 2 = .ok (.iload_n 1, 1) := by decide +kernel
theorem dX8_would_3 : decode cX8_would 3 = .ok (.iload_n 2, 1) := by decide +kernel
theorem dX8_would_4 : decode cX8_would 4 = .ok (.invokevirtual 59, 3) := by decide +kernel
theorem dX8_would_7 : decode cX8_would 7 = .ok (.putfield 28, 3) := by decide +kernel
theorem dX8_would_10 : decode cX8_would 10 = .ok (.aload_n 0, 1) := by decide +kernel
theorem dX8_would_11 : decode cX8_would 11 = .ok (.getfield 28, 3) := by decide +kernel
theorem dX8_would_14 : decode cX8_would 14 = .ok (.ifCond .le 5, 3) := by decide +kernel
theorem dX8_would_17 : decode cX8_would 17 = .ok (.iconst 0, 1) := by decide +kernel
theorem dX8_would_18 : decode cX8_would 18 = .ok (.ireturn, 1) := by decide +kernel
theorem dX8_would_19 : decode cX8_would 19 = .ok (.iconst 0, 1) := by decide +kernel
theorem dX8_would_20 : decode cX8_would 20 = .ok (.istore_n 3, 1) := by decide +kernel
theorem dX8_would_21 : decode cX8_would 21 = .ok (.iload_n 3, 1) := by decide +kernel
theorem dX8_would_22 : decode cX8_would 22 = .ok (.aload_n 0, 1) := by decide +kernel
theorem dX8_would_23 : decode cX8_would 23 = .ok (.getfield 32, 3) := by decide +kernel
theorem dX8_would_26 : decode cX8_would 26 = .ok (.if_icmp .ge 21, 3) := by decide +kernel
theorem dX8_would_29 : decode cX8_would 29 = .ok (.aload_n 0, 1) := by decide +kernel
theorem dX8_would_30 : decode cX8_would 30 = .ok (.getfield 25, 3) := by decide +kernel
theorem dX8_would_33 : decode cX8_would 33 = .ok (.iload_n 3, 1) := by decide +kernel
theorem dX8_would_34 : decode cX8_would 34 = .ok (.aload_n 0, 1) := by decide +kernel
theorem dX8_would_35 : decode cX8_would 35 = .ok (.getfield 16, 3) := by decide +kernel
theorem dX8_would_38 : decode cX8_would 38 = .ok (.iload_n 3, 1) := by decide +kernel
theorem dX8_would_39 : decode cX8_would 39 = .ok (.iaload, 1) := by decide +kernel
theorem dX8_would_40 : decode cX8_would 40 = .ok (.iastore, 1) := by decide +kernel
theorem dX8_would_41 : decode cX8_would 41 = .ok (.iinc 3 1, 3) := by decide +kernel
theorem dX8_would_44 : decode cX8_would 44 = .ok (.goto (-23), 3) := by decide +kernel
theorem dX8_would_47 : decode cX8_would 47 = .ok (.aload_n 0, 1) := by decide +kernel
theorem dX8_would_48 : decode cX8_would 48 = .ok (.iload_n 1, 1) := by decide +kernel
theorem dX8_would_49 : decode cX8_would 49 = .ok (.iload_n 2, 1) := by decide +kernel
theorem dX8_would_50 : decode cX8_would 50 = .ok (.invokevirtual 62, 3) := by decide +kernel
theorem dX8_would_53 : decode cX8_would 53 = .ok (.pop, 1) := by decide +kernel
theorem dX8_would_54 : decode cX8_would 54 = .ok (.aload_n 0, 1) := by decide +kernel
theorem dX8_would_55 : decode cX8_would 55 = .ok (.invokevirtual 55, 3) := by decide +kernel
theorem dX8_would_58 : decode cX8_would 58 = .ok (.istore_n 3, 1) := by decide +kernel
theorem dX8_would_59 : decode cX8_would 59 = .ok (.iconst 0, 1) := by decide +kernel
theorem dX8_would_60 : decode cX8_would 60 = .ok (.istore 4, 2) := by decide +kernel
theorem dX8_would_62 : decode cX8_would 62 = .ok (.iload 4, 2) := by decide +kernel
theorem dX8_would_64 : decode cX8_would 64 = .ok (.aload_n 0, 1) := by decide +kernel
theorem dX8_would_65 : decode cX8_would 65 = .ok (.getfield 32, 3) := by decide +kernel
theorem dX8_would_68 : decode cX8_would 68 = .ok (.if_icmp .ge 23, 3) := by decide +kernel
theorem dX8_would_71 : decode cX8_would 71 = .ok (.aload_n 0, 1) := by decide +kernel
theorem dX8_would_72 : decode cX8_would 72 = .ok (.getfield 16, 3) := by decide +kernel
theorem dX8_would_75 : decode cX8_would 75 = .ok (.iload 4, 2) := by decide +kernel
theorem dX8_would_77 : decode cX8_would 77 = .ok (.aload_n 0, 1) := by decide +kernel
theorem dX8_would_78 : decode cX8_would 78 = .ok (.getfield 25, 3) := by decide +kernel
theorem dX8_would_81 : decode cX8_would 81 = .ok (.iload 4, 2) := by decide +kernel
theorem dX8_would_83 : decode cX8_would 83 = .ok (.iaload, 1) := by decide +kernel
theorem dX8_would_84 : decode cX8_would 84 = .ok (.iastore, 1) := by decide +kernel
theorem dX8_would_85 : decode cX8_would 85 = .ok (.iinc 4 1, 3) := by decide +kernel
theorem dX8_would_88 : decode cX8_would 88 = .ok (.goto (-26), 3) := by decide +kernel
theorem dX8_would_91 : decode cX8_would 91 = .ok (.iload_n 3, 1) := by decide +kernel
theorem dX8_would_92 : decode cX8_would 92 = .ok (.ireturn, 1) := by decide +kernel
theorem dX8_digits_0 : decode cX8_digits 0 = .ok (.iload_n 0, 1) := by decide +kernel
theorem dX8_digits_1 : decode cX8_digits 1 = .ok (.bipush 10, 2) := by decide +kernel
theorem dX8_digits_3 : decode cX8_digits 3 = .ok (.if_icmp .ge 7, 3) := by decide +kernel
theorem dX8_digits_6 : decode cX8_digits 6 = .ok (.iconst 1, 1) := by decide +kernel
theorem dX8_digits_7 : decode cX8_digits 7 = .ok (.goto 14, 3) := by decide +kernel
theorem dX8_digits_10 : decode cX8_digits 10 = .ok (.iload_n 0, 1) := by decide +kernel
theorem dX8_digits_11 : decode cX8_digits 11 = .ok (.bipush 100, 2) := by decide +kernel
theorem dX8_digits_13 : decode cX8_digits 13 = .ok (.if_icmp .ge 7, 3) := by decide +kernel
theorem dX8_digits_16 : decode cX8_digits 16 = .ok (.iconst 2, 1) := by decide +kernel
theorem dX8_digits_17 : decode cX8_digits 17 = .ok (.goto 4, 3) := by decide +kernel
theorem dX8_digits_20 : decode cX8_digits 20 = .ok (.iconst 3, 1) := by decide +kernel
theorem dX8_digits_21 : decode cX8_digits 21 = .ok (.ireturn, 1) := by decide +kernel
set_option maxRecDepth 20000 in
theorem ggX8_digit_X8_digits : GoodIn wsX8_digit wsX8_digits := goodIn_r _ [4] (by decide +kernel) (by decide +kernel)
set_option maxRecDepth 20000 in
theorem gX8_digit_X8_digits : GoodIn wsX8_digit (va_wsS RX8 136 yX8_digits wsX8_digits) := goodIn_app (goodIn_of _ (by decide +kernel)) ggX8_digit_X8_digits
theorem dX8_digit_0 : decode cX8_digit 0 = .ok (.iload_n 1, 1) := by decide +kernel
theorem dX8_digit_1 : decode cX8_digit 1 = .ok (.iload_n 0, 1) := by decide +kernel
theorem dX8_digit_2 : decode cX8_digit 2 = .ok (.invokestatic 136, 3) := by decide +kernel
theorem dX8_digit_5 : decode cX8_digit 5 = .ok (.iconst 1, 1) := by decide +kernel
theorem dX8_digit_6 : decode cX8_digit 6 = .ok (.isub, 1) := by decide +kernel
theorem dX8_digit_7 : decode cX8_digit 7 = .ok (.if_icmp .ne 7, 3) := by decide +kernel
theorem dX8_digit_10 : decode cX8_digit 10 = .ok (.iconst 1, 1) := by decide +kernel
theorem dX8_digit_11 : decode cX8_digit 11 = .ok (.goto 20, 3) := by decide +kernel
theorem dX8_digit_14 : decode cX8_digit 14 = .ok (.iload_n 1, 1) := by decide +kernel
theorem dX8_digit_15 : decode cX8_digit 15 = .ok (.iload_n 0, 1) := by decide +kernel
theorem dX8_digit_16 : decode cX8_digit 16 = .ok (.invokestatic 136, 3) := by decide +kernel
theorem dX8_digit_19 : decode cX8_digit 19 = .ok (.iconst 2, 1) := by decide +kernel
theorem dX8_digit_20 : decode cX8_digit 20 = .ok (.isub, 1) := by decide +kernel
theorem dX8_digit_21 : decode cX8_digit 21 = .ok (.if_icmp .ne 8, 3) := by decide +kernel
theorem dX8_digit_24 : decode cX8_digit 24 = .ok (.bipush 10, 2) := by decide +kernel
theorem dX8_digit_26 : decode cX8_digit 26 = .ok (.goto 5, 3) := by decide +kernel
theorem dX8_digit_29 : decode cX8_digit 29 = .ok (.bipush 100, 2) := by decide +kernel
theorem dX8_digit_31 : decode cX8_digit 31 = .ok (.istore_n 2, 1) := by decide +kernel
theorem dX8_digit_32 : decode cX8_digit 32 = .ok (.bipush 48, 2) := by decide +kernel
theorem dX8_digit_34 : decode cX8_digit 34 = .ok (.iload_n 0, 1) := by decide +kernel
theorem dX8_digit_35 : decode cX8_digit 35 = .ok (.iload_n 2, 1) := by decide +kernel
theorem dX8_digit_36 : decode cX8_digit 36 = .ok (.idiv, 1) := by decide +kernel
theorem dX8_digit_37 : decode cX8_digit 37 = .ok (.bipush 10, 2) := by decide +kernel
theorem dX8_digit_39 : decode cX8_digit 39 = .ok (.irem, 1) := by decide +kernel
theorem dX8_digit_40 : decode cX8_digit 40 = .ok (.iadd, 1) := by decide +kernel
theorem dX8_digit_41 : decode cX8_digit 41 = .ok (.i2c, 1) := by decide +kernel
theorem dX8_digit_42 : decode cX8_digit 42 = .ok (.ireturn, 1) := by decide +kernel
set_option maxRecDepth 20000 in
theorem ggX8_sign_X8_isSite : GoodIn wsX8_sign wsX8_isSite := goodIn_r _ [9, 10, 11, 12, 8, 13, 23, 24, 25, 26, 27, 28, 29, 30, 31, 32, 33, 34, 35, 36, 37, 38, 39] (by decide +kernel) (by decide +kernel)
set_option maxRecDepth 20000 in
theorem gX8_sign_X8_isSite : GoodIn wsX8_sign (wsV RX8 39 RX8 yX8_isSite wsX8_isSite) := goodIn_app (goodIn_of _ (by decide +kernel)) ggX8_sign_X8_isSite
set_option maxRecDepth 20000 in
theorem ggX8_sign_X8_digits : GoodIn wsX8_sign wsX8_digits := goodIn_r _ [16] (by decide +kernel) (by decide +kernel)
set_option maxRecDepth 20000 in
theorem gX8_sign_X8_digits : GoodIn wsX8_sign (va_wsS RX8 136 yX8_digits wsX8_digits) := goodIn_app (goodIn_of _ (by decide +kernel)) ggX8_sign_X8_digits
set_option maxRecDepth 20000 in
theorem ggX8_sign_X8_size : GoodIn wsX8_sign wsX8_size := goodIn_r _ [19] (by decide +kernel) (by decide +kernel)
set_option maxRecDepth 20000 in
theorem gX8_sign_X8_size : GoodIn wsX8_sign (va_wsS RX8 51 yX8_size wsX8_size) := goodIn_app (goodIn_of _ (by decide +kernel)) ggX8_sign_X8_size
set_option maxRecDepth 20000 in
theorem ggX8_sign_X8_digit : GoodIn wsX8_sign wsX8_digit := goodIn_r _ [22, 14, 15, 8, 16] (by decide +kernel) (by decide +kernel)
set_option maxRecDepth 20000 in
theorem gX8_sign_X8_digit : GoodIn wsX8_sign (va_wsS RX8 139 yX8_digit wsX8_digit) := goodIn_app (goodIn_of _ (by decide +kernel)) ggX8_sign_X8_digit
theorem dX8_sign_0 : decode cX8_sign 0 = .ok (.aload_n 0, 1) := by decide +kernel
theorem dX8_sign_1 : decode cX8_sign 1 = .ok (.aload_n 0, 1) := by decide +kernel
theorem dX8_sign_2 : decode cX8_sign 2 = .ok (.iload_n 1, 1) := by decide +kernel
theorem dX8_sign_3 : decode cX8_sign 3 = .ok (.invokevirtual 39, 3) := by decide +kernel
theorem dX8_sign_6 : decode cX8_sign 6 = .ok (.ifCond .eq 7, 3) := by decide +kernel
theorem dX8_sign_9 : decode cX8_sign 9 = .ok (.iload_n 2, 1) := by decide +kernel
theorem dX8_sign_10 : decode cX8_sign 10 = .ok (.ifCond .ge 7, 3) := by decide +kernel
theorem dX8_sign_13 : decode cX8_sign 13 = .ok (.iconst 1, 1) := by decide +kernel
theorem dX8_sign_14 : decode cX8_sign 14 = .ok (.goto 4, 3) := by decide +kernel
theorem dX8_sign_17 : decode cX8_sign 17 = .ok (.iconst 0, 1) := by decide +kernel
theorem dX8_sign_18 : decode cX8_sign 18 = .ok (.putfield 28, 3) := by decide +kernel
theorem dX8_sign_21 : decode cX8_sign 21 = .ok (.aload_n 0, 1) := by decide +kernel
theorem dX8_sign_22 : decode cX8_sign 22 = .ok (.getfield 28, 3) := by decide +kernel
theorem dX8_sign_25 : decode cX8_sign 25 = .ok (.ifCond .le 5, 3) := by decide +kernel
theorem dX8_sign_28 : decode cX8_sign 28 = .ok (.iconst 0, 1) := by decide +kernel
theorem dX8_sign_29 : decode cX8_sign 29 = .ok (.ireturn, 1) := by decide +kernel
theorem dX8_sign_30 : decode cX8_sign 30 = .ok (.aload_n 0, 1) := by decide +kernel
theorem dX8_sign_31 : decode cX8_sign 31 = .ok (.getfield 7, 3) := by decide +kernel
theorem dX8_sign_34 : decode cX8_sign 34 = .ok (.iload_n 1, 1) := by decide +kernel
theorem dX8_sign_35 : decode cX8_sign 35 = .ok (.iaload, 1) := by decide +kernel
theorem dX8_sign_36 : decode cX8_sign 36 = .ok (.invokestatic 136, 3) := by decide +kernel
theorem dX8_sign_39 : decode cX8_sign 39 = .ok (.istore_n 3, 1) := by decide +kernel
theorem dX8_sign_40 : decode cX8_sign 40 = .ok (.iload_n 3, 1) := by decide +kernel
theorem dX8_sign_41 : decode cX8_sign 41 = .ok (.iconst 1, 1) := by decide +kernel
theorem dX8_sign_42 : decode cX8_sign 42 = .ok (.iadd, 1) := by decide +kernel
theorem dX8_sign_43 : decode cX8_sign 43 = .ok (.aload_n 0, 1) := by decide +kernel
theorem dX8_sign_44 : decode cX8_sign 44 = .ok (.getfield 13, 3) := by decide +kernel
theorem dX8_sign_47 : decode cX8_sign 47 = .ok (.iload_n 1, 1) := by decide +kernel
theorem dX8_sign_48 : decode cX8_sign 48 = .ok (.iaload, 1) := by decide +kernel
theorem dX8_sign_49 : decode cX8_sign 49 = .ok (.invokestatic 136, 3) := by decide +kernel
theorem dX8_sign_52 : decode cX8_sign 52 = .ok (.iadd, 1) := by decide +kernel
theorem dX8_sign_53 : decode cX8_sign 53 = .ok (.istore 4, 2) := by decide +kernel
theorem dX8_sign_55 : decode cX8_sign 55 = .ok (.aload_n 0, 1) := by decide +kernel
theorem dX8_sign_56 : decode cX8_sign 56 = .ok (.getfield 16, 3) := by decide +kernel
theorem dX8_sign_59 : decode cX8_sign 59 = .ok (.iload_n 1, 1) := by decide +kernel
theorem dX8_sign_60 : decode cX8_sign 60 = .ok (.iaload, 1) := by decide +kernel
theorem dX8_sign_61 : decode cX8_sign 61 = .ok (.invokestatic 51, 3) := by decide +kernel
theorem dX8_sign_64 : decode cX8_sign 64 = .ok (.istore 5, 2) := by decide +kernel
theorem dX8_sign_66 : decode cX8_sign 66 = .ok (.iload_n 2, 1) := by decide +kernel
theorem dX8_sign_67 : decode cX8_sign 67 = .ok (.iload_n 3, 1) := by decide +kernel
theorem dX8_sign_68 : decode cX8_sign 68 = .ok (.if_icmp .ge 14, 3) := by decide +kernel
theorem dX8_sign_71 : decode cX8_sign 71 = .ok (.aload_n 0, 1) := by decide +kernel
theorem dX8_sign_72 : decode cX8_sign 72 = .ok (.getfield 7, 3) := by decide +kernel
theorem dX8_sign_75 : decode cX8_sign 75 = .ok (.iload_n 1, 1) := by decide +kernel
theorem dX8_sign_76 : decode cX8_sign 76 = .ok (.iaload, 1) := by decide +kernel
theorem dX8_sign_77 : decode cX8_sign 77 = .ok (.iload_n 2, 1) := by decide +kernel
theorem dX8_sign_78 : decode cX8_sign 78 = .ok (.invokestatic 139, 3) := by decide +kernel
theorem dX8_sign_81 : decode cX8_sign 81 = .ok (.ireturn, 1) := by decide +kernel
theorem dX8_sign_82 : decode cX8_sign 82 = .ok (.iload_n 2, 1) := by decide +kernel
theorem dX8_sign_83 : decode cX8_sign 83 = .ok (.iload 4, 2) := by decide +kernel
theorem dX8_sign_85 : decode cX8_sign 85 = .ok (.if_icmp .gt 53, 3) := by decide +kernel
theorem dX8_sign_88 : decode cX8_sign 88 = .ok (.iload_n 2, 1) := by decide +kernel
theorem dX8_sign_89 : decode cX8_sign 89 = .ok (.iload_n 3, 1) := by decide +kernel
theorem dX8_sign_90 : decode cX8_sign 90 = .ok (.if_icmp .ne 8, 3) := by decide +kernel
theorem dX8_sign_93 : decode cX8_sign 93 = .ok (.bipush 44, 2) := by decide +kernel
theorem dX8_sign_95 : decode cX8_sign 95 = .ok (.goto 42, 3) := by decide +kernel
theorem dX8_sign_98 : decode cX8_sign 98 = .ok (.iload_n 2, 1) := by decide +kernel
theorem dX8_sign_99 : decode cX8_sign 99 = .ok (.iload 4, 2) := by decide +kernel
theorem dX8_sign_101 : decode cX8_sign 101 = .ok (.if_icmp .ge 20, 3) := by decide +kernel
theorem dX8_sign_104 : decode cX8_sign 104 = .ok (.aload_n 0, 1) := by decide +kernel
theorem dX8_sign_105 : decode cX8_sign 105 = .ok (.getfield 13, 3) := by decide +kernel
theorem dX8_sign_108 : decode cX8_sign 108 = .ok (.iload_n 1, 1) := by decide +kernel
theorem dX8_sign_109 : decode cX8_sign 109 = .ok (.iaload, 1) := by decide +kernel
theorem dX8_sign_110 : decode cX8_sign 110 = .ok (.iload_n 2, 1) := by decide +kernel
theorem dX8_sign_111 : decode cX8_sign 111 = .ok (.iload_n 3, 1) := by decide +kernel
theorem dX8_sign_112 : decode cX8_sign 112 = .ok (.isub, 1) := by decide +kernel
theorem dX8_sign_113 : decode cX8_sign 113 = .ok (.iconst 1, 1) := by decide +kernel
theorem dX8_sign_114 : decode cX8_sign 114 = .ok (.isub, 1) := by decide +kernel
theorem dX8_sign_115 : decode cX8_sign 115 = .ok (.invokestatic 139, 3) := by decide +kernel
theorem dX8_sign_118 : decode cX8_sign 118 = .ok (.goto 19, 3) := by decide +kernel
theorem dX8_sign_121 : decode cX8_sign 121 = .ok (.aload_n 0, 1) := by decide +kernel
theorem dX8_sign_122 : decode cX8_sign 122 = .ok (.getfield 16, 3) := by decide +kernel
theorem dX8_sign_125 : decode cX8_sign 125 = .ok (.iload_n 1, 1) := by decide +kernel
theorem dX8_sign_126 : decode cX8_sign 126 = .ok (.iaload, 1) := by decide +kernel
theorem dX8_sign_127 : decode cX8_sign 127 = .ok (.ifCond .ge 8, 3) := by decide +kernel
theorem dX8_sign_130 : decode cX8_sign 130 = .ok (.bipush 45, 2) := by decide +kernel
theorem dX8_sign_132 : decode cX8_sign 132 = .ok (.goto 5, 3) := by decide +kernel
theorem dX8_sign_135 : decode cX8_sign 135 = .ok (.bipush 43, 2) := by decide +kernel
theorem dX8_sign_137 : decode cX8_sign 137 = .ok (.ireturn, 1) := by decide +kernel
theorem dX8_sign_138 : decode cX8_sign 138 = .ok (.iload_n 2, 1) := by decide +kernel
theorem dX8_sign_139 : decode cX8_sign 139 = .ok (.iload 4, 2) := by decide +kernel
theorem dX8_sign_141 : decode cX8_sign 141 = .ok (.isub, 1) := by decide +kernel
theorem dX8_sign_142 : decode cX8_sign 142 = .ok (.iconst 1, 1) := by decide +kernel
theorem dX8_sign_143 : decode cX8_sign 143 = .ok (.isub, 1) := by decide +kernel
theorem dX8_sign_144 : decode cX8_sign 144 = .ok (.iload 5, 2) := by decide +kernel
theorem dX8_sign_146 : decode cX8_sign 146 = .ok (.invokestatic 136, 3) := by decide +kernel
theorem dX8_sign_149 : decode cX8_sign 149 = .ok (.if_icmp .ge 17, 3) := by decide +kernel
theorem dX8_sign_152 : decode cX8_sign 152 = .ok (.iload 5, 2) := by decide +kernel
theorem dX8_sign_154 : decode cX8_sign 154 = .ok (.iload_n 2, 1) := by decide +kernel
theorem dX8_sign_155 : decode cX8_sign 155 = .ok (.iload 4, 2) := by decide +kernel
theorem dX8_sign_157 : decode cX8_sign 157 = .ok (.isub, 1) := by decide +kernel
theorem dX8_sign_158 : decode cX8_sign 158 = .ok (.iconst 1, 1) := by decide +kernel
theorem dX8_sign_159 : decode cX8_sign 159 = .ok (.isub, 1) := by decide +kernel
theorem dX8_sign_160 : decode cX8_sign 160 = .ok (.invokestatic 139, 3) := by decide +kernel
theorem dX8_sign_163 : decode cX8_sign 163 = .ok (.goto 5, 3) := by decide +kernel
theorem dX8_sign_166 : decode cX8_sign 166 = .ok (.bipush 32, 2) := by decide +kernel
theorem dX8_sign_168 : decode cX8_sign 168 = .ok (.ireturn, 1) := by decide +kernel
set_option maxRecDepth 20000 in
theorem ggJ5_init_d00df_J2_newBytesFor_77867 : GoodIn wsJ5_init_d00df wsJ2_newBytesFor_77867 := goodIn_r _ [11, 5, 12, 13, 10, 14, 15] (by decide +kernel) (by decide +kernel)
set_option maxRecDepth 20000 in
theorem gJ5_init_d00df_J2_newBytesFor_77867 : GoodIn wsJ5_init_d00df (va_wsS RJ5 26 yJ2_newBytesFor_77867 wsJ2_newBytesFor_77867) := goodIn_app (goodIn_of _ (by decide +kernel)) ggJ5_init_d00df_J2_newBytesFor_77867
theorem dJ5_init_d00df_0 : decode cJ5_init_d00df 0 = .ok (.aload_n 0, 1) := by decide +kernel
theorem dJ5_init_d00df_1 : decode cJ5_init_d00df 1 = .ok (.invokespecial 3, 3) := by decide +kernel
theorem dJ5_init_d00df_4 : decode cJ5_init_d00df 4 = .ok (.getstatic 18, 3) := by decide +kernel
theorem dJ5_init_d00df_7 : decode cJ5_init_d00df 7 = .ok (.ifCond .eq 18, 3) := by decide +kernel
theorem dJ5_init_d00df_10 : decode cJ5_init_d00df 10 = .ok (.aload_n 0, 1) := by decide +kernel
theorem dJ5_init_d00df_11 : decode cJ5_init_d00df 11 = .ok (.iload_n 1, 1) := by decide +kernel
theorem dJ5_init_d00df_12 : decode cJ5_init_d00df 12 = .ok (.newarray .byte, 2) := by decide +kernel
theorem dJ5_init_d00df_14 : decode cJ5_init_d00df 14 = .ok (.putfield 15, 3) := by decide +kernel
theorem dJ5_init_d00df_17 : decode cJ5_init_d00df 17 = .ok (.aload_n 0, 1) := by decide +kernel
theorem dJ5_init_d00df_18 : decode cJ5_init_d00df 18 = .ok (.iconst 0, 1) := by decide +kernel
theorem dJ5_init_d00df_19 : decode cJ5_init_d00df 19 = .ok (.putfield 22, 3) := by decide +kernel
theorem dJ5_init_d00df_22 : decode cJ5_init_d00df 22 = .ok (.goto 16, 3) := by decide +kernel
theorem dJ5_init_d00df_25 : decode cJ5_init_d00df 25 = .ok (.aload_n 0, 1) := by decide +kernel
theorem dJ5_init_d00df_26 : decode cJ5_init_d00df 26 = .ok (.iload_n 1, 1) := by decide +kernel
theorem dJ5_init_d00df_27 : decode cJ5_init_d00df 27 = .ok (.invokestatic 26, 3) := by decide +kernel
theorem dJ5_init_d00df_30 : decode cJ5_init_d00df 30 = .ok (.putfield 15, 3) := by decide +kernel
theorem dJ5_init_d00df_33 : decode cJ5_init_d00df 33 = .ok (.aload_n 0, 1) := by decide +kernel
theorem dJ5_init_d00df_34 : decode cJ5_init_d00df 34 = .ok (.iconst 1, 1) := by decide +kernel
theorem dJ5_init_d00df_35 : decode cJ5_init_d00df 35 = .ok (.putfield 22, 3) := by decide +kernel
theorem dJ5_init_d00df_38 : decode cJ5_init_d00df 38 = .ok (.return_, 1) := by decide +kernel
theorem dJ5_length_8abf5_0 : decode cJ5_length_8abf5 0 = .ok (.aload_n 0, 1) := by decide +kernel
theorem dJ5_length_8abf5_1 : decode cJ5_length_8abf5 1 = .ok (.getfield 79, 3) := by decide +kernel
theorem dJ5_length_8abf5_4 : decode cJ5_length_8abf5 4 = .ok (.ireturn, 1) := by decide +kernel
set_option maxRecDepth 20000 in
theorem ggJ5_ensureCapacityInternal_d00df_J5_newCapacity_0f7a4 : GoodIn wsJ5_ensureCapacityInternal_d00df wsJ5_newCapacity_0f7a4 := goodIn_r _ [8, 1, 2, 9, 10, 11, 12, 13, 14, 15, 16, 17, 18, 19, 20, 21, 40, 41, 42, 43] (by decide +kernel) (by decide +kernel)
set_option maxRecDepth 20000 in
theorem gJ5_ensureCapacityInternal_d00df_J5_newCapacity_0f7a4_u104J4 : GoodIn wsJ5_ensureCapacityInternal_d00df (va_wsU RJ5 104 RJ4 "java/lang/AbstractStringBuilder" ⟨"java/lang/AbstractStringBuilder", "newCapacity", "(I)I"⟩ yJ5_newCapacity_0f7a4 wsJ5_newCapacity_0f7a4) := goodIn_app (goodIn_of _ (by decide +kernel)) ggJ5_ensureCapacityInternal_d00df_J5_newCapacity_0f7a4
set_option maxRecDepth 20000 in
theorem ggJ5_ensureCapacityInternal_d00df_J7_copyOf_9075b : GoodIn wsJ5_ensureCapacityInternal_d00df wsJ7_copyOf_9075b := goodIn_r _ [25, 26, 27, 28, 29, 30, 31, 32, 33, 34, 16, 35, 36, 37, 38, 39] (by decide +kernel) (by decide +kernel)
set_option maxRecDepth 20000 in
theorem gJ5_ensureCapacityInternal_d00df_J7_copyOf_9075b : GoodIn wsJ5_ensureCapacityInternal_d00df (va_wsS RJ5 108 yJ7_copyOf_9075b wsJ7_copyOf_9075b) := goodIn_app (goodIn_of _ (by decide +kernel)) ggJ5_ensureCapacityInternal_d00df_J7_copyOf_9075b
theorem dJ5_ensureCapacityInternal_d00df_0 : decode cJ5_ensureCapacityInternal_d00df 0 = .ok (.aload_n 0, 1) := by decide +kernel
theorem dJ5_ensureCapacityInternal_d00df_1 : decode cJ5_ensureCapacityInternal_d00df 1 = .ok (.getfield 15, 3) := by decide +kernel
theorem dJ5_ensureCapacityInternal_d00df_4 : decode cJ5_ensureCapacityInternal_d00df 4 = .ok (.arraylength, 1) := by decide +kernel
theorem dJ5_ensureCapacityInternal_d00df_5 : decode cJ5_ensureCapacityInternal_d00df 5 = .ok (.aload_n 0, 1) := by decide +kernel
theorem dJ5_ensureCapacityInternal_d00df_6 : decode cJ5_ensureCapacityInternal_d00df 6 = .ok (.getfield 22, 3) := by decide +kernel
theorem dJ5_ensureCapacityInternal_d00df_9 : decode cJ5_ensureCapacityInternal_d00df 9 = .ok (.ishr, 1) := by decide +kernel
theorem dJ5_ensureCapacityInternal_d00df_10 : decode cJ5_ensureCapacityInternal_d00df 10 = .ok (.istore_n 2, 1) := by decide +kernel
theorem dJ5_ensureCapacityInternal_d00df_11 : decode cJ5_ensureCapacityInternal_d00df 11 = .ok (.iload_n 1, 1) := by decide +kernel
theorem dJ5_ensureCapacityInternal_d00df_12 : decode cJ5_ensureCapacityInternal_d00df 12 = .ok (.iload_n 2, 1) := by decide +kernel
theorem dJ5_ensureCapacityInternal_d00df_13 : decode cJ5_ensureCapacityInternal_d00df 13 = .ok (.isub, 1) := by decide +kernel
theorem dJ5_ensureCapacityInternal_d00df_14 : decode cJ5_ensureCapacityInternal_d00df 14 = .ok (.ifCond .le 24, 3) := by decide +kernel
theorem dJ5_ensureCapacityInternal_d00df_17 : decode cJ5_ensureCapacityInternal_d00df 17 = .ok (.aload_n 0, 1) := by decide +kernel
theorem dJ5_ensureCapacityInternal_d00df_18 : decode cJ5_ensureCapacityInternal_d00df 18 = .ok (.aload_n 0, 1) := by decide +kernel
theorem dJ5_ensureCapacityInternal_d00df_19 : decode cJ5_ensureCapacityInternal_d00df 19 = .ok (.getfield 15, 3) := by decide +kernel
theorem dJ5_ensureCapacityInternal_d00df_22 : decode cJ5_ensureCapacityInternal_d00df 22 = .ok (.aload_n 0, 1) := by decide +kernel
theorem dJ5_ensureCapacityInternal_d00df_23 : decode cJ5_ensureCapacityInternal_d00df 23 = .ok (.iload_n 1, 1) := by decide +kernel
theorem dJ5_ensureCapacityInternal_d00df_24 : decode cJ5_ensureCapacityInternal_d00df 24 = .ok (.invokevirtual 104, 3) := by decide +kernel
theorem dJ5_ensureCapacityInternal_d00df_27 : decode cJ5_ensureCapacityInternal_d00df 27 = .ok (.aload_n 0, 1) := by decide +kernel
theorem dJ5_ensureCapacityInternal_d00df_28 : decode cJ5_ensureCapacityInternal_d00df 28 = .ok (.getfield 22, 3) := by decide +kernel
theorem dJ5_ensureCapacityInternal_d00df_31 : decode cJ5_ensureCapacityInternal_d00df 31 = .ok (.ishl, 1) := by decide +kernel
theorem dJ5_ensureCapacityInternal_d00df_32 : decode cJ5_ensureCapacityInternal_d00df 32 = .ok (.invokestatic 108, 3) := by decide +kernel
theorem dJ5_ensureCapacityInternal_d00df_35 : decode cJ5_ensureCapacityInternal_d00df 35 = .ok (.putfield 15, 3) := by decide +kernel
theorem dJ5_ensureCapacityInternal_d00df_38 : decode cJ5_ensureCapacityInternal_d00df 38 = .ok (.return_, 1) := by decide +kernel
set_option maxRecDepth 20000 in
theorem ggJ5_newCapacity_0f7a4_J8_newLength_cabcc : GoodIn wsJ5_newCapacity_0f7a4 wsJ8_newLength_cabcc := goodIn_r _ [7, 8, 9, 10, 11, 12, 13, 14, 6, 15] (by decide +kernel) (by decide +kernel)
set_option maxRecDepth 20000 in
theorem gJ5_newCapacity_0f7a4_J8_newLength_cabcc : GoodIn wsJ5_newCapacity_0f7a4 (va_wsS RJ5 114 yJ8_newLength_cabcc wsJ8_newLength_cabcc) := goodIn_app (goodIn_of _ (by decide +kernel)) ggJ5_newCapacity_0f7a4_J8_newLength_cabcc
theorem dJ5_newCapacity_0f7a4_0 : decode cJ5_newCapacity_0f7a4 0 = .ok (.aload_n 0, 1) := by decide +kernel
theorem dJ5_newCapacity_0f7a4_1 : decode cJ5_newCapacity_0f7a4 1 = .ok (.getfield 15, 3) := by decide +kernel
theorem dJ5_newCapacity_0f7a4_4 : decode cJ5_newCapacity_0f7a4 4 = .ok (.arraylength, 1) := by decide +kernel
theorem dJ5_newCapacity_0f7a4_5 : decode cJ5_newCapacity_0f7a4 5 = .ok (.istore_n 2, 1) := by decide +kernel
theorem dJ5_newCapacity_0f7a4_6 : decode cJ5_newCapacity_0f7a4 6 = .ok (.iload_n 1, 1) := by decide +kernel
theorem dJ5_newCapacity_0f7a4_7 : decode cJ5_newCapacity_0f7a4 7 = .ok (.aload_n 0, 1) := by decide +kernel
theorem dJ5_newCapacity_0f7a4_8 : decode cJ5_newCapacity_0f7a4 8 = .ok (.getfield 22, 3) := by decide +kernel
theorem dJ5_newCapacity_0f7a4_11 : decode cJ5_newCapacity_0f7a4 11 = .ok (.ishl, 1) := by decide +kernel
theorem dJ5_newCapacity_0f7a4_12 : decode cJ5_newCapacity_0f7a4 12 = .ok (.istore_n 3, 1) := by decide +kernel
theorem dJ5_newCapacity_0f7a4_13 : decode cJ5_newCapacity_0f7a4 13 = .ok (.iload_n 3, 1) := by decide +kernel
theorem dJ5_newCapacity_0f7a4_14 : decode cJ5_newCapacity_0f7a4 14 = .ok (.iload_n 2, 1) := by decide +kernel
theorem dJ5_newCapacity_0f7a4_15 : decode cJ5_newCapacity_0f7a4 15 = .ok (.isub, 1) := by decide +kernel
theorem dJ5_newCapacity_0f7a4_16 : decode cJ5_newCapacity_0f7a4 16 = .ok (.istore 4, 2) := by decide +kernel
theorem dJ5_newCapacity_0f7a4_18 : decode cJ5_newCapacity_0f7a4 18 = .ok (.iload_n 2, 1) := by decide +kernel
theorem dJ5_newCapacity_0f7a4_19 : decode cJ5_newCapacity_0f7a4 19 = .ok (.iload 4, 2) := by decide +kernel
theorem dJ5_newCapacity_0f7a4_21 : decode cJ5_newCapacity_0f7a4 21 = .ok (.iload_n 2, 1) := by decide +kernel
theorem dJ5_newCapacity_0f7a4_22 : decode cJ5_newCapacity_0f7a4 22 = .ok (.iconst 2, 1) := by decide +kernel
theorem dJ5_newCapacity_0f7a4_23 : decode cJ5_newCapacity_0f7a4 23 = .ok (.aload_n 0, 1) := by decide +kernel
theorem dJ5_newCapacity_0f7a4_24 : decode cJ5_newCapacity_0f7a4 24 = .ok (.getfield 22, 3) := by decide +kernel
theorem dJ5_newCapacity_0f7a4_27 : decode cJ5_newCapacity_0f7a4 27 = .ok (.ishl, 1) := by decide +kernel
theorem dJ5_newCapacity_0f7a4_28 : decode cJ5_newCapacity_0f7a4 28 = .ok (.iadd, 1) := by decide +kernel
theorem dJ5_newCapacity_0f7a4_29 : decode cJ5_newCapacity_0f7a4 29 = .ok (.invokestatic 114, 3) := by decide +kernel
theorem dJ5_newCapacity_0f7a4_32 : decode cJ5_newCapacity_0f7a4 32 = .ok (.istore 5, 2) := by decide +kernel
theorem dJ5_newCapacity_0f7a4_34 : decode cJ5_newCapacity_0f7a4 34 = .ok (.iload 5, 2) := by decide +kernel
theorem dJ5_newCapacity_0f7a4_36 : decode cJ5_newCapacity_0f7a4 36 = .ok (.ldc 39, 2) := by decide +kernel
theorem dJ5_newCapacity_0f7a4_38 : decode cJ5_newCapacity_0f7a4 38 = .ok (.if_icmp .ne 13, 3) := by decide +kernel
theorem dJ5_newCapacity_0f7a4_41 : decode cJ5_newCapacity_0f7a4 41 = .ok (.new 120, 3) := by decide +kernel
theorem dJ5_newCapacity_0f7a4_44 : decode cJ5_newCapacity_0f7a4 44 = .ok (.dup, 1) := by decide +kernel
theorem dJ5_newCapacity_0f7a4_45 : decode cJ5_newCapacity_0f7a4 45 = .ok (.ldc 122, 2) := by decide +kernel
theorem dJ5_newCapacity_0f7a4_47 : decode cJ5_newCapacity_0f7a4 47 = .ok (.invokespecial 124, 3) := by decide +kernel
theorem dJ5_newCapacity_0f7a4_50 : decode cJ5_newCapacity_0f7a4 50 = .ok (.athrow, 1) := by decide +kernel
theorem dJ5_newCapacity_0f7a4_51 : decode cJ5_newCapacity_0f7a4 51 = .ok (.iload 5, 2) := by decide +kernel
theorem dJ5_newCapacity_0f7a4_53 : decode cJ5_newCapacity_0f7a4 53 = .ok (.aload_n 0, 1) := by decide +kernel
theorem dJ5_newCapacity_0f7a4_54 : decode cJ5_newCapacity_0f7a4 54 = .ok (.getfield 22, 3) := by decide +kernel
theorem dJ5_newCapacity_0f7a4_57 : decode cJ5_newCapacity_0f7a4 57 = .ok (.ishr, 1) := by decide +kernel
theorem dJ5_newCapacity_0f7a4_58 : decode cJ5_newCapacity_0f7a4 58 = .ok (.ireturn, 1) := by decide +kernel
set_option maxRecDepth 20000 in
theorem ggJ5_inflate_da8c8_J5_isLatin1_aae02 : GoodIn wsJ5_inflate_da8c8 wsJ5_isLatin1_aae02 := goodIn_r _ [9, 10, 3, 48, 49, 50, 51] (by decide +kernel) (by decide +kernel)
set_option maxRecDepth 20000 in
theorem gJ5_inflate_da8c8_J5_isLatin1_aae02_u83J4 : GoodIn wsJ5_inflate_da8c8 (va_wsU RJ5 83 RJ4 "java/lang/AbstractStringBuilder" ⟨"java/lang/AbstractStringBuilder", "isLatin1", "()Z"⟩ yJ5_isLatin1_aae02 wsJ5_isLatin1_aae02) := goodIn_app (goodIn_of _ (by decide +kernel)) ggJ5_inflate_da8c8_J5_isLatin1_aae02
set_option maxRecDepth 20000 in
theorem ggJ5_inflate_da8c8_J2_newBytesFor_77867 : GoodIn wsJ5_inflate_da8c8 wsJ2_newBytesFor_77867 := goodIn_r _ [14, 15, 16, 17, 13, 18, 19] (by decide +kernel) (by decide +kernel)
set_option maxRecDepth 20000 in
theorem gJ5_inflate_da8c8_J2_newBytesFor_77867 : GoodIn wsJ5_inflate_da8c8 (va_wsS RJ5 26 yJ2_newBytesFor_77867 wsJ2_newBytesFor_77867) := goodIn_app (goodIn_of _ (by decide +kernel)) ggJ5_inflate_da8c8_J2_newBytesFor_77867
set_option maxRecDepth 20000 in
theorem ggJ5_inflate_da8c8_J1_inflate_0e8fd : GoodIn wsJ5_inflate_da8c8 wsJ1_inflate_0e8fd := goodIn_r _ [23, 24, 25, 13, 26, 27, 28, 29, 30, 31, 32, 33, 34, 35, 36, 37, 38, 39, 40, 41, 42, 43, 44, 45, 46, 47] (by decide +kernel) (by decide +kernel)
set_option maxRecDepth 20000 in
theorem gJ5_inflate_da8c8_J1_inflate_0e8fd : GoodIn wsJ5_inflate_da8c8 (va_wsS RJ5 125 yJ1_inflate_0e8fd wsJ1_inflate_0e8fd) := goodIn_app (goodIn_of _ (by decide +kernel)) ggJ5_inflate_da8c8_J1_inflate_0e8fd
theorem dJ5_inflate_da8c8_0 : decode cJ5_inflate_da8c8 0 = .ok (.aload_n 0, 1) := by decide +kernel
theorem dJ5_inflate_da8c8_1 : decode cJ5_inflate_da8c8 1 = .ok (.invokevirtual 83, 3) := by decide +kernel
theorem dJ5_inflate_da8c8_4 : decode cJ5_inflate_da8c8 4 = .ok (.ifCond .ne 4, 3) := by decide +kernel
theorem dJ5_inflate_da8c8_7 : decode cJ5_inflate_da8c8 7 = .ok (.return_, 1) := by decide +kernel
theorem dJ5_inflate_da8c8_8 : decode cJ5_inflate_da8c8 8 = .ok (.aload_n 0, 1) := by decide +kernel
theorem dJ5_inflate_da8c8_9 : decode cJ5_inflate_da8c8 9 = .ok (.getfield 15, 3) := by decide +kernel
theorem dJ5_inflate_da8c8_12 : decode cJ5_inflate_da8c8 12 = .ok (.arraylength, 1) := by decide +kernel
theorem dJ5_inflate_da8c8_13 : decode cJ5_inflate_da8c8 13 = .ok (.invokestatic 26, 3) := by decide +kernel
theorem dJ5_inflate_da8c8_16 : decode cJ5_inflate_da8c8 16 = .ok (.astore_n 1, 1) := by decide +kernel
theorem dJ5_inflate_da8c8_17 : decode cJ5_inflate_da8c8 17 = .ok (.aload_n 0, 1) := by decide +kernel
theorem dJ5_inflate_da8c8_18 : decode cJ5_inflate_da8c8 18 = .ok (.getfield 15, 3) := by decide +kernel
theorem dJ5_inflate_da8c8_21 : decode cJ5_inflate_da8c8 21 = .ok (.iconst 0, 1) := by decide +kernel
theorem dJ5_inflate_da8c8_22 : decode cJ5_inflate_da8c8 22 = .ok (.aload_n 1, 1) := by decide +kernel
theorem dJ5_inflate_da8c8_23 : decode cJ5_inflate_da8c8 23 = .ok (.iconst 0, 1) := by decide +kernel
theorem dJ5_inflate_da8c8_24 : decode cJ5_inflate_da8c8 24 = .ok (.aload_n 0, 1) := by decide +kernel
theorem dJ5_inflate_da8c8_25 : decode cJ5_inflate_da8c8 25 = .ok (.getfield 79, 3) := by decide +kernel
theorem dJ5_inflate_da8c8_28 : decode cJ5_inflate_da8c8 28 = .ok (.invokestatic 125, 3) := by decide +kernel
theorem dJ5_inflate_da8c8_31 : decode cJ5_inflate_da8c8 31 = .ok (.aload_n 0, 1) := by decide +kernel
theorem dJ5_inflate_da8c8_32 : decode cJ5_inflate_da8c8 32 = .ok (.aload_n 1, 1) := by decide +kernel
theorem dJ5_inflate_da8c8_33 : decode cJ5_inflate_da8c8 33 = .ok (.putfield 15, 3) := by decide +kernel
theorem dJ5_inflate_da8c8_36 : decode cJ5_inflate_da8c8 36 = .ok (.aload_n 0, 1) := by decide +kernel
theorem dJ5_inflate_da8c8_37 : decode cJ5_inflate_da8c8 37 = .ok (.iconst 1, 1) := by decide +kernel
theorem dJ5_inflate_da8c8_38 : decode cJ5_inflate_da8c8 38 = .ok (.putfield 22, 3) := by decide +kernel
theorem dJ5_inflate_da8c8_41 : decode cJ5_inflate_da8c8 41 = .ok (.return_, 1) := by decide +kernel
set_option maxRecDepth 20000 in
theorem ggJ5_charAt_5068e_J0_checkIndex_df160 : GoodIn wsJ5_charAt_5068e wsJ0_checkIndex_df160 := goodIn_r _ [11, 12, 13, 14, 15, 16] (by decide +kernel) (by decide +kernel)
set_option maxRecDepth 20000 in
theorem gJ5_charAt_5068e_J0_checkIndex_df160 : GoodIn wsJ5_charAt_5068e (va_wsS RJ5 144 yJ0_checkIndex_df160 wsJ0_checkIndex_df160) := goodIn_app (goodIn_of _ (by decide +kernel)) ggJ5_charAt_5068e_J0_checkIndex_df160
set_option maxRecDepth 20000 in
theorem ggJ5_charAt_5068e_J2_getChar_3b067 : GoodIn wsJ5_charAt_5068e wsJ2_getChar_3b067 := goodIn_r _ [20, 21, 22, 23, 24, 25, 19, 26] (by decide +kernel) (by decide +kernel)
set_option maxRecDepth 20000 in
theorem gJ5_charAt_5068e_J2_getChar_3b067 : GoodIn wsJ5_charAt_5068e (va_wsS RJ5 148 yJ2_getChar_3b067 wsJ2_getChar_3b067) := goodIn_app (goodIn_of _ (by decide +kernel)) ggJ5_charAt_5068e_J2_getChar_3b067
theorem dJ5_charAt_5068e_0 : decode cJ5_charAt_5068e 0 = .ok (.aload_n 0, 1) := by decide +kernel
theorem dJ5_charAt_5068e_1 : decode cJ5_charAt_5068e 1 = .ok (.getfield 22, 3) := by decide +kernel
theorem dJ5_charAt_5068e_4 : decode cJ5_charAt_5068e 4 = .ok (.istore_n 2, 1) := by decide +kernel
theorem dJ5_charAt_5068e_5 : decode cJ5_charAt_5068e 5 = .ok (.aload_n 0, 1) := by decide +kernel
theorem dJ5_charAt_5068e_6 : decode cJ5_charAt_5068e 6 = .ok (.getfield 15, 3) := by decide +kernel
theorem dJ5_charAt_5068e_9 : decode cJ5_charAt_5068e 9 = .ok (.astore_n 3, 1) := by decide +kernel
theorem dJ5_charAt_5068e_10 : decode cJ5_charAt_5068e 10 = .ok (.aload_n 0, 1) := by decide +kernel
theorem dJ5_charAt_5068e_11 : decode cJ5_charAt_5068e 11 = .ok (.getfield 79, 3) := by decide +kernel
theorem dJ5_charAt_5068e_14 : decode cJ5_charAt_5068e 14 = .ok (.aload_n 3, 1) := by decide +kernel
theorem dJ5_charAt_5068e_15 : decode cJ5_charAt_5068e 15 = .ok (.arraylength, 1) := by decide +kernel
theorem dJ5_charAt_5068e_16 : decode cJ5_charAt_5068e 16 = .ok (.iload_n 2, 1) := by decide +kernel
theorem dJ5_charAt_5068e_17 : decode cJ5_charAt_5068e 17 = .ok (.ishr, 1) := by decide +kernel
theorem dJ5_charAt_5068e_18 : decode cJ5_charAt_5068e 18 = .ok (.invokestatic 138, 3) := by decide +kernel
theorem dJ5_charAt_5068e_21 : decode cJ5_charAt_5068e 21 = .ok (.istore 4, 2) := by decide +kernel
theorem dJ5_charAt_5068e_23 : decode cJ5_charAt_5068e 23 = .ok (.iload_n 1, 1) := by decide +kernel
theorem dJ5_charAt_5068e_24 : decode cJ5_charAt_5068e 24 = .ok (.iload 4, 2) := by decide +kernel
theorem dJ5_charAt_5068e_26 : decode cJ5_charAt_5068e 26 = .ok (.invokestatic 144, 3) := by decide +kernel
theorem dJ5_charAt_5068e_29 : decode cJ5_charAt_5068e 29 = .ok (.iload_n 2, 1) := by decide +kernel
theorem dJ5_charAt_5068e_30 : decode cJ5_charAt_5068e 30 = .ok (.ifCond .ne 12, 3) := by decide +kernel
theorem dJ5_charAt_5068e_33 : decode cJ5_charAt_5068e 33 = .ok (.aload_n 3, 1) := by decide +kernel
theorem dJ5_charAt_5068e_34 : decode cJ5_charAt_5068e 34 = .ok (.iload_n 1, 1) := by decide +kernel
theorem dJ5_charAt_5068e_35 : decode cJ5_charAt_5068e 35 = .ok (.baload, 1) := by decide +kernel
theorem dJ5_charAt_5068e_36 : decode cJ5_charAt_5068e 36 = .ok (.sipush 255, 3) := by decide +kernel
theorem dJ5_charAt_5068e_39 : decode cJ5_charAt_5068e 39 = .ok (.iand, 1) := by decide +kernel
theorem dJ5_charAt_5068e_40 : decode cJ5_charAt_5068e 40 = .ok (.i2c, 1) := by decide +kernel
theorem dJ5_charAt_5068e_41 : decode cJ5_charAt_5068e 41 = .ok (.ireturn, 1) := by decide +kernel
theorem dJ5_charAt_5068e_42 : decode cJ5_charAt_5068e 42 = .ok (.aload_n 3, 1) := by decide +kernel
theorem dJ5_charAt_5068e_43 : decode cJ5_charAt_5068e 43 = .ok (.iload_n 1, 1) := by decide +kernel
theorem dJ5_charAt_5068e_44 : decode cJ5_charAt_5068e 44 = .ok (.invokestatic 148, 3) := by decide +kernel
theorem dJ5_charAt_5068e_47 : decode cJ5_charAt_5068e 47 = .ok (.ireturn, 1) := by decide +kernel
set_option maxRecDepth 20000 in
theorem ggJ5_append_3fe6f_J5_ensureCapacityInternal_d00df : GoodIn wsJ5_append_3fe6f wsJ5_ensureCapacityInternal_d00df := goodIn_r _ [8, 2, 9, 10, 11, 12, 13, 7, 14, 15, 16, 17, 18, 19, 20, 21, 22, 23, 24, 25, 26, 27, 28, 29, 30, 31, 32, 33, 34, 35, 36, 37, 38, 39, 40, 41, 42, 43, 44, 45, 108, 109, 110, 111] (by decide +kernel) (by decide +kernel)
set_option maxRecDepth 20000 in
theorem gJ5_append_3fe6f_J5_ensureCapacityInternal_d00df_u100J4 : GoodIn wsJ5_append_3fe6f (va_wsU RJ5 100 RJ4 "java/lang/AbstractStringBuilder" ⟨"java/lang/AbstractStringBuilder", "ensureCapacityInternal", "(I)V"⟩ yJ5_ensureCapacityInternal_d00df wsJ5_ensureCapacityInternal_d00df) := goodIn_app (goodIn_of _ (by decide +kernel)) ggJ5_append_3fe6f_J5_ensureCapacityInternal_d00df
set_option maxRecDepth 20000 in
theorem ggJ5_append_3fe6f_J5_isLatin1_aae02 : GoodIn wsJ5_append_3fe6f wsJ5_isLatin1_aae02 := goodIn_r _ [50, 51, 9, 108, 109, 110, 111] (by decide +kernel) (by decide +kernel)
set_option maxRecDepth 20000 in
theorem gJ5_append_3fe6f_J5_isLatin1_aae02_u83J4 : GoodIn wsJ5_append_3fe6f (va_wsU RJ5 83 RJ4 "java/lang/AbstractStringBuilder" ⟨"java/lang/AbstractStringBuilder", "isLatin1", "()Z"⟩ yJ5_isLatin1_aae02 wsJ5_isLatin1_aae02) := goodIn_app (goodIn_of _ (by decide +kernel)) ggJ5_append_3fe6f_J5_isLatin1_aae02
set_option maxRecDepth 20000 in
theorem ggJ5_append_3fe6f_J1_canEncode_fc78d : GoodIn wsJ5_append_3fe6f wsJ1_canEncode_fc78d := goodIn_r _ [55] (by decide +kernel) (by decide +kernel)
set_option maxRecDepth 20000 in
theorem gJ5_append_3fe6f_J1_canEncode_fc78d : GoodIn wsJ5_append_3fe6f (va_wsS RJ5 191 yJ1_canEncode_fc78d wsJ1_canEncode_fc78d) := goodIn_app (goodIn_of _ (by decide +kernel)) ggJ5_append_3fe6f_J1_canEncode_fc78d
set_option maxRecDepth 20000 in
theorem ggJ5_append_3fe6f_J5_inflate_da8c8 : GoodIn wsJ5_append_3fe6f wsJ5_inflate_da8c8 := goodIn_r _ [60, 2, 1, 9, 46, 47, 48, 49, 7, 50, 51, 61, 62, 63, 64, 38, 65, 66, 67, 68, 69, 70, 54, 71, 72, 73, 74, 75, 76, 77, 78, 79, 80, 81, 82, 83, 84, 85, 86, 87, 88, 89, 90, 91, 92, 93, 94, 95, 108, 109, 110, 111] (by decide +kernel) (by decide +kernel)
set_option maxRecDepth 20000 in
theorem gJ5_append_3fe6f_J5_inflate_da8c8_u195J4 : GoodIn wsJ5_append_3fe6f (va_wsU RJ5 195 RJ4 "java/lang/AbstractStringBuilder" ⟨"java/lang/AbstractStringBuilder", "inflate", "()V"⟩ yJ5_inflate_da8c8 wsJ5_inflate_da8c8) := goodIn_app (goodIn_of _ (by decide +kernel)) ggJ5_append_3fe6f_J5_inflate_da8c8
set_option maxRecDepth 20000 in
theorem ggJ5_append_3fe6f_J2_putCharSB_b72d1 : GoodIn wsJ5_append_3fe6f wsJ2_putCharSB_b72d1 := goodIn_r _ [98, 99, 100, 63, 101, 78, 79, 80, 102, 103, 83, 104, 85, 105, 106, 88, 107, 90, 91, 92, 93, 94, 95] (by decide +kernel) (by decide +kernel)
set_option maxRecDepth 20000 in
theorem gJ5_append_3fe6f_J2_putCharSB_b72d1 : GoodIn wsJ5_append_3fe6f (va_wsS RJ5 197 yJ2_putCharSB_b72d1 wsJ2_putCharSB_b72d1) := goodIn_app (goodIn_of _ (by decide +kernel)) ggJ5_append_3fe6f_J2_putCharSB_b72d1
theorem dJ5_append_3fe6f_0 : decode cJ5_append_3fe6f 0 = .ok (.aload_n 0, 1) := by decide +kernel
theorem dJ5_append_3fe6f_1 : decode cJ5_append_3fe6f 1 = .ok (.aload_n 0, 1) := by decide +kernel
theorem dJ5_append_3fe6f_2 : decode cJ5_append_3fe6f 2 = .ok (.getfield 79, 3) := by decide +kernel
theorem dJ5_append_3fe6f_5 : decode cJ5_append_3fe6f 5 = .ok (.iconst 1, 1) := by decide +kernel
theorem dJ5_append_3fe6f_6 : decode cJ5_append_3fe6f 6 = .ok (.iadd, 1) := by decide +kernel
theorem dJ5_append_3fe6f_7 : decode cJ5_append_3fe6f 7 = .ok (.invokevirtual 100, 3) := by decide +kernel
theorem dJ5_append_3fe6f_10 : decode cJ5_append_3fe6f 10 = .ok (.aload_n 0, 1) := by decide +kernel
theorem dJ5_append_3fe6f_11 : decode cJ5_append_3fe6f 11 = .ok (.invokevirtual 83, 3) := by decide +kernel
theorem dJ5_append_3fe6f_14 : decode cJ5_append_3fe6f 14 = .ok (.ifCond .eq 31, 3) := by decide +kernel
theorem dJ5_append_3fe6f_17 : decode cJ5_append_3fe6f 17 = .ok (.iload_n 1, 1) := by decide +kernel
theorem dJ5_append_3fe6f_18 : decode cJ5_append_3fe6f 18 = .ok (.invokestatic 191, 3) := by decide +kernel
theorem dJ5_append_3fe6f_21 : decode cJ5_append_3fe6f 21 = .ok (.ifCond .eq 24, 3) := by decide +kernel
theorem dJ5_append_3fe6f_24 : decode cJ5_append_3fe6f 24 = .ok (.aload_n 0, 1) := by decide +kernel
theorem dJ5_append_3fe6f_25 : decode cJ5_append_3fe6f 25 = .ok (.getfield 15, 3) := by decide +kernel
theorem dJ5_append_3fe6f_28 : decode cJ5_append_3fe6f 28 = .ok (.aload_n 0, 1) := by decide +kernel
theorem dJ5_append_3fe6f_29 : decode cJ5_append_3fe6f 29 = .ok (.dup, 1) := by decide +kernel
theorem dJ5_append_3fe6f_30 : decode cJ5_append_3fe6f 30 = .ok (.getfield 79, 3) := by decide +kernel
theorem dJ5_append_3fe6f_33 : decode cJ5_append_3fe6f 33 = .ok (.dup_x1, 1) := by decide +kernel
theorem dJ5_append_3fe6f_34 : decode cJ5_append_3fe6f 34 = .ok (.iconst 1, 1) := by decide +kernel
theorem dJ5_append_3fe6f_35 : decode cJ5_append_3fe6f 35 = .ok (.iadd, 1) := by decide +kernel
theorem dJ5_append_3fe6f_36 : decode cJ5_append_3fe6f 36 = .ok (.putfield 79, 3) := by decide +kernel
theorem dJ5_append_3fe6f_39 : decode cJ5_append_3fe6f 39 = .ok (.iload_n 1, 1) := by decide +kernel
theorem dJ5_append_3fe6f_40 : decode cJ5_append_3fe6f 40 = .ok (.i2b, 1) := by decide +kernel
theorem dJ5_append_3fe6f_41 : decode cJ5_append_3fe6f 41 = .ok (.bastore, 1) := by decide +kernel
theorem dJ5_append_3fe6f_42 : decode cJ5_append_3fe6f 42 = .ok (.goto 33, 3) := by decide +kernel
theorem dJ5_append_3fe6f_45 : decode cJ5_append_3fe6f 45 = .ok (.aload_n 0, 1) := by decide +kernel
theorem dJ5_append_3fe6f_46 : decode cJ5_append_3fe6f 46 = .ok (.invokevirtual 83, 3) := by decide +kernel
theorem dJ5_append_3fe6f_49 : decode cJ5_append_3fe6f 49 = .ok (.ifCond .eq 7, 3) := by decide +kernel
theorem dJ5_append_3fe6f_52 : decode cJ5_append_3fe6f 52 = .ok (.aload_n 0, 1) := by decide +kernel
theorem dJ5_append_3fe6f_53 : decode cJ5_append_3fe6f 53 = .ok (.invokevirtual 195, 3) := by decide +kernel
theorem dJ5_append_3fe6f_56 : decode cJ5_append_3fe6f 56 = .ok (.aload_n 0, 1) := by decide +kernel
theorem dJ5_append_3fe6f_57 : decode cJ5_append_3fe6f 57 = .ok (.getfield 15, 3) := by decide +kernel
theorem dJ5_append_3fe6f_60 : decode cJ5_append_3fe6f 60 = .ok (.aload_n 0, 1) := by decide +kernel
theorem dJ5_append_3fe6f_61 : decode cJ5_append_3fe6f 61 = .ok (.dup, 1) := by decide +kernel
theorem dJ5_append_3fe6f_62 : decode cJ5_append_3fe6f 62 = .ok (.getfield 79, 3) := by decide +kernel
theorem dJ5_append_3fe6f_65 : decode cJ5_append_3fe6f 65 = .ok (.dup_x1, 1) := by decide +kernel
theorem dJ5_append_3fe6f_66 : decode cJ5_append_3fe6f 66 = .ok (.iconst 1, 1) := by decide +kernel
theorem dJ5_append_3fe6f_67 : decode cJ5_append_3fe6f 67 = .ok (.iadd, 1) := by decide +kernel
theorem dJ5_append_3fe6f_68 : decode cJ5_append_3fe6f 68 = .ok (.putfield 79, 3) := by decide +kernel
theorem dJ5_append_3fe6f_71 : decode cJ5_append_3fe6f 71 = .ok (.iload_n 1, 1) := by decide +kernel
theorem dJ5_append_3fe6f_72 : decode cJ5_append_3fe6f 72 = .ok (.invokestatic 197, 3) := by decide +kernel
theorem dJ5_append_3fe6f_75 : decode cJ5_append_3fe6f 75 = .ok (.aload_n 0, 1) := by decide +kernel
theorem dJ5_append_3fe6f_76 : decode cJ5_append_3fe6f 76 = .ok (.areturn, 1) := by decide +kernel
set_option maxRecDepth 20000 in
theorem ggJ5_append_c97b9_J6_stringSize_0f7a4 : GoodIn wsJ5_append_c97b9 wsJ6_stringSize_0f7a4 := goodIn_r _ [6] (by decide +kernel) (by decide +kernel)
set_option maxRecDepth 20000 in
theorem gJ5_append_c97b9_J6_stringSize_0f7a4 : GoodIn wsJ5_append_c97b9 (va_wsS RJ5 245 yJ6_stringSize_0f7a4 wsJ6_stringSize_0f7a4) := goodIn_app (goodIn_of _ (by decide +kernel)) ggJ5_append_c97b9_J6_stringSize_0f7a4
set_option maxRecDepth 20000 in
theorem ggJ5_append_c97b9_J5_ensureCapacityInternal_d00df : GoodIn wsJ5_append_c97b9 wsJ5_ensureCapacityInternal_d00df := goodIn_r _ [12, 2, 13, 14, 15, 16, 17, 11, 18, 19, 20, 21, 22, 23, 24, 25, 26, 27, 28, 29, 30, 31, 32, 33, 34, 35, 36, 37, 38, 39, 40, 41, 42, 43, 44, 45, 46, 47, 48, 49, 91, 92, 93, 94] (by decide +kernel) (by decide +kernel)
set_option maxRecDepth 20000 in
theorem gJ5_append_c97b9_J5_ensureCapacityInternal_d00df_u100J4 : GoodIn wsJ5_append_c97b9 (va_wsU RJ5 100 RJ4 "java/lang/AbstractStringBuilder" ⟨"java/lang/AbstractStringBuilder", "ensureCapacityInternal", "(I)V"⟩ yJ5_ensureCapacityInternal_d00df wsJ5_ensureCapacityInternal_d00df) := goodIn_app (goodIn_of _ (by decide +kernel)) ggJ5_append_c97b9_J5_ensureCapacityInternal_d00df
set_option maxRecDepth 20000 in
theorem ggJ5_append_c97b9_J5_isLatin1_aae02 : GoodIn wsJ5_append_c97b9 wsJ5_isLatin1_aae02 := goodIn_r _ [54, 55, 13, 91, 92, 93, 94] (by decide +kernel) (by decide +kernel)
set_option maxRecDepth 20000 in
theorem gJ5_append_c97b9_J5_isLatin1_aae02_u83J4 : GoodIn wsJ5_append_c97b9 (va_wsU RJ5 83 RJ4 "java/lang/AbstractStringBuilder" ⟨"java/lang/AbstractStringBuilder", "isLatin1", "()Z"⟩ yJ5_isLatin1_aae02 wsJ5_isLatin1_aae02) := goodIn_app (goodIn_of _ (by decide +kernel)) ggJ5_append_c97b9_J5_isLatin1_aae02
set_option maxRecDepth 20000 in
theorem ggJ5_append_c97b9_J6_getChars_ba4f3 : GoodIn wsJ5_append_c97b9 wsJ6_getChars_ba4f3 := goodIn_r _ [58, 59, 60] (by decide +kernel) (by decide +kernel)
set_option maxRecDepth 20000 in
theorem gJ5_append_c97b9_J6_getChars_ba4f3 : GoodIn wsJ5_append_c97b9 (va_wsS RJ5 248 yJ6_getChars_ba4f3 wsJ6_getChars_ba4f3) := goodIn_app (goodIn_of _ (by decide +kernel)) ggJ5_append_c97b9_J6_getChars_ba4f3
set_option maxRecDepth 20000 in
theorem ggJ5_append_c97b9_J2_getChars_46870 : GoodIn wsJ5_append_c97b9 wsJ2_getChars_46870 := goodIn_r _ [64, 65, 66, 67, 63, 68, 69, 70, 71, 72, 73, 74, 75, 76, 77, 78, 79, 80, 81, 82, 83, 84, 85, 86, 87, 88, 89, 90] (by decide +kernel) (by decide +kernel)
set_option maxRecDepth 20000 in
theorem gJ5_append_c97b9_J2_getChars_46870 : GoodIn wsJ5_append_c97b9 (va_wsS RJ5 251 yJ2_getChars_46870 wsJ2_getChars_46870) := goodIn_app (goodIn_of _ (by decide +kernel)) ggJ5_append_c97b9_J2_getChars_46870
theorem dJ5_append_c97b9_0 : decode cJ5_append_c97b9 0 = .ok (.aload_n 0, 1) := by decide +kernel
theorem dJ5_append_c97b9_1 : decode cJ5_append_c97b9 1 = .ok (.getfield 79, 3) := by decide +kernel
theorem dJ5_append_c97b9_4 : decode cJ5_append_c97b9 4 = .ok (.istore_n 2, 1) := by decide +kernel
theorem dJ5_append_c97b9_5 : decode cJ5_append_c97b9 5 = .ok (.iload_n 2, 1) := by decide +kernel
theorem dJ5_append_c97b9_6 : decode cJ5_append_c97b9 6 = .ok (.iload_n 1, 1) := by decide +kernel
theorem dJ5_append_c97b9_7 : decode cJ5_append_c97b9 7 = .ok (.invokestatic 245, 3) := by decide +kernel
theorem dJ5_append_c97b9_10 : decode cJ5_append_c97b9 10 = .ok (.iadd, 1) := by decide +kernel
theorem dJ5_append_c97b9_11 : decode cJ5_append_c97b9 11 = .ok (.istore_n 3, 1) := by decide +kernel
theorem dJ5_append_c97b9_12 : decode cJ5_append_c97b9 12 = .ok (.aload_n 0, 1) := by decide +kernel
theorem dJ5_append_c97b9_13 : decode cJ5_append_c97b9 13 = .ok (.iload_n 3, 1) := by decide +kernel
theorem dJ5_append_c97b9_14 : decode cJ5_append_c97b9 14 = .ok (.invokevirtual 100, 3) := by decide +kernel
theorem dJ5_append_c97b9_17 : decode cJ5_append_c97b9 17 = .ok (.aload_n 0, 1) := by decide +kernel
theorem dJ5_append_c97b9_18 : decode cJ5_append_c97b9 18 = .ok (.invokevirtual 83, 3) := by decide +kernel
theorem dJ5_append_c97b9_21 : decode cJ5_append_c97b9 21 = .ok (.ifCond .eq 16, 3) := by decide +kernel
theorem dJ5_append_c97b9_24 : decode cJ5_append_c97b9 24 = .ok (.iload_n 1, 1) := by decide +kernel
theorem dJ5_append_c97b9_25 : decode cJ5_append_c97b9 25 = .ok (.iload_n 3, 1) := by decide +kernel
theorem dJ5_append_c97b9_26 : decode cJ5_append_c97b9 26 = .ok (.aload_n 0, 1) := by decide +kernel
theorem dJ5_append_c97b9_27 : decode cJ5_append_c97b9 27 = .ok (.getfield 15, 3) := by decide +kernel
theorem dJ5_append_c97b9_30 : decode cJ5_append_c97b9 30 = .ok (.invokestatic 248, 3) := by decide +kernel
theorem dJ5_append_c97b9_33 : decode cJ5_append_c97b9 33 = .ok (.pop, 1) := by decide +kernel
theorem dJ5_append_c97b9_34 : decode cJ5_append_c97b9 34 = .ok (.goto 14, 3) := by decide +kernel
theorem dJ5_append_c97b9_37 : decode cJ5_append_c97b9 37 = .ok (.iload_n 1, 1) := by decide +kernel
theorem dJ5_append_c97b9_38 : decode cJ5_append_c97b9 38 = .ok (.iload_n 2, 1) := by decide +kernel
theorem dJ5_append_c97b9_39 : decode cJ5_append_c97b9 39 = .ok (.iload_n 3, 1) := by decide +kernel
theorem dJ5_append_c97b9_40 : decode cJ5_append_c97b9 40 = .ok (.aload_n 0, 1) := by decide +kernel
theorem dJ5_append_c97b9_41 : decode cJ5_append_c97b9 41 = .ok (.getfield 15, 3) := by decide +kernel
theorem dJ5_append_c97b9_44 : decode cJ5_append_c97b9 44 = .ok (.invokestatic 251, 3) := by decide +kernel
theorem dJ5_append_c97b9_47 : decode cJ5_append_c97b9 47 = .ok (.pop, 1) := by decide +kernel
theorem dJ5_append_c97b9_48 : decode cJ5_append_c97b9 48 = .ok (.aload_n 0, 1) := by decide +kernel
theorem dJ5_append_c97b9_49 : decode cJ5_append_c97b9 49 = .ok (.iload_n 3, 1) := by decide +kernel
theorem dJ5_append_c97b9_50 : decode cJ5_append_c97b9 50 = .ok (.putfield 79, 3) := by decide +kernel
theorem dJ5_append_c97b9_53 : decode cJ5_append_c97b9 53 = .ok (.aload_n 0, 1) := by decide +kernel
theorem dJ5_append_c97b9_54 : decode cJ5_append_c97b9 54 = .ok (.areturn, 1) := by decide +kernel
theorem dJ5_isLatin1_aae02_0 : decode cJ5_isLatin1_aae02 0 = .ok (.getstatic 18, 3) := by decide +kernel
theorem dJ5_isLatin1_aae02_3 : decode cJ5_isLatin1_aae02 3 = .ok (.ifCond .eq 14, 3) := by decide +kernel
theorem dJ5_isLatin1_aae02_6 : decode cJ5_isLatin1_aae02 6 = .ok (.aload_n 0, 1) := by decide +kernel
theorem dJ5_isLatin1_aae02_7 : decode cJ5_isLatin1_aae02 7 = .ok (.getfield 22, 3) := by decide +kernel
theorem dJ5_isLatin1_aae02_10 : decode cJ5_isLatin1_aae02 10 = .ok (.ifCond .ne 7, 3) := by decide +kernel
theorem dJ5_isLatin1_aae02_13 : decode cJ5_isLatin1_aae02 13 = .ok (.iconst 1, 1) := by decide +kernel
theorem dJ5_isLatin1_aae02_14 : decode cJ5_isLatin1_aae02 14 = .ok (.goto 4, 3) := by decide +kernel
theorem dJ5_isLatin1_aae02_17 : decode cJ5_isLatin1_aae02 17 = .ok (.iconst 0, 1) := by decide +kernel
theorem dJ5_isLatin1_aae02_18 : decode cJ5_isLatin1_aae02 18 = .ok (.ireturn, 1) := by decide +kernel
theorem dJ6_getChars_ba4f3_0 : decode cJ6_getChars_ba4f3 0 = .ok (.iload_n 1, 1) := by decide +kernel
theorem dJ6_getChars_ba4f3_1 : decode cJ6_getChars_ba4f3 1 = .ok (.istore 5, 2) := by decide +kernel
theorem dJ6_getChars_ba4f3_3 : decode cJ6_getChars_ba4f3 3 = .ok (.iload_n 0, 1) := by decide +kernel
theorem dJ6_getChars_ba4f3_4 : decode cJ6_getChars_ba4f3 4 = .ok (.ifCond .ge 7, 3) := by decide +kernel
theorem dJ6_getChars_ba4f3_7 : decode cJ6_getChars_ba4f3 7 = .ok (.iconst 1, 1) := by decide +kernel
theorem dJ6_getChars_ba4f3_8 : decode cJ6_getChars_ba4f3 8 = .ok (.goto 4, 3) := by decide +kernel
theorem dJ6_getChars_ba4f3_11 : decode cJ6_getChars_ba4f3 11 = .ok (.iconst 0, 1) := by decide +kernel
theorem dJ6_getChars_ba4f3_12 : decode cJ6_getChars_ba4f3 12 = .ok (.istore 6, 2) := by decide +kernel
theorem dJ6_getChars_ba4f3_14 : decode cJ6_getChars_ba4f3 14 = .ok (.iload 6, 2) := by decide +kernel
theorem dJ6_getChars_ba4f3_16 : decode cJ6_getChars_ba4f3 16 = .ok (.ifCond .ne 6, 3) := by decide +kernel
theorem dJ6_getChars_ba4f3_19 : decode cJ6_getChars_ba4f3 19 = .ok (.iload_n 0, 1) := by decide +kernel
theorem dJ6_getChars_ba4f3_20 : decode cJ6_getChars_ba4f3 20 = .ok (.ineg, 1) := by decide +kernel
theorem dJ6_getChars_ba4f3_21 : decode cJ6_getChars_ba4f3 21 = .ok (.istore_n 0, 1) := by decide +kernel
theorem dJ6_getChars_ba4f3_22 : decode cJ6_getChars_ba4f3 22 = .ok (.iload_n 0, 1) := by decide +kernel
theorem dJ6_getChars_ba4f3_23 : decode cJ6_getChars_ba4f3 23 = .ok (.bipush (-100), 2) := by decide +kernel
theorem dJ6_getChars_ba4f3_25 : decode cJ6_getChars_ba4f3 25 = .ok (.if_icmp .gt 47, 3) := by decide +kernel
theorem dJ6_getChars_ba4f3_28 : decode cJ6_getChars_ba4f3 28 = .ok (.iload_n 0, 1) := by decide +kernel
theorem dJ6_getChars_ba4f3_29 : decode cJ6_getChars_ba4f3 29 = .ok (.bipush 100, 2) := by decide +kernel
theorem dJ6_getChars_ba4f3_31 : decode cJ6_getChars_ba4f3 31 = .ok (.idiv, 1) := by decide +kernel
theorem dJ6_getChars_ba4f3_32 : decode cJ6_getChars_ba4f3 32 = .ok (.istore_n 3, 1) := by decide +kernel
theorem dJ6_getChars_ba4f3_33 : decode cJ6_getChars_ba4f3 33 = .ok (.iload_n 3, 1) := by decide +kernel
theorem dJ6_getChars_ba4f3_34 : decode cJ6_getChars_ba4f3 34 = .ok (.bipush 100, 2) := by decide +kernel
theorem dJ6_getChars_ba4f3_36 : decode cJ6_getChars_ba4f3 36 = .ok (.imul, 1) := by decide +kernel
theorem dJ6_getChars_ba4f3_37 : decode cJ6_getChars_ba4f3 37 = .ok (.iload_n 0, 1) := by decide +kernel
theorem dJ6_getChars_ba4f3_38 : decode cJ6_getChars_ba4f3 38 = .ok (.isub, 1) := by decide +kernel
theorem dJ6_getChars_ba4f3_39 : decode cJ6_getChars_ba4f3 39 = .ok (.istore 4, 2) := by decide +kernel
theorem dJ6_getChars_ba4f3_41 : decode cJ6_getChars_ba4f3 41 = .ok (.iload_n 3, 1) := by decide +kernel
theorem dJ6_getChars_ba4f3_42 : decode cJ6_getChars_ba4f3 42 = .ok (.istore_n 0, 1) := by decide +kernel
theorem dJ6_getChars_ba4f3_43 : decode cJ6_getChars_ba4f3 43 = .ok (.aload_n 2, 1) := by decide +kernel
theorem dJ6_getChars_ba4f3_44 : decode cJ6_getChars_ba4f3 44 = .ok (.iinc 5 (-1), 3) := by decide +kernel
theorem dJ6_getChars_ba4f3_47 : decode cJ6_getChars_ba4f3 47 = .ok (.iload 5, 2) := by decide +kernel
theorem dJ6_getChars_ba4f3_49 : decode cJ6_getChars_ba4f3 49 = .ok (.getstatic 83, 3) := by decide +kernel
theorem dJ6_getChars_ba4f3_52 : decode cJ6_getChars_ba4f3 52 = .ok (.iload 4, 2) := by decide +kernel
theorem dJ6_getChars_ba4f3_54 : decode cJ6_getChars_ba4f3 54 = .ok (.baload, 1) := by decide +kernel
theorem dJ6_getChars_ba4f3_55 : decode cJ6_getChars_ba4f3 55 = .ok (.bastore, 1) := by decide +kernel
theorem dJ6_getChars_ba4f3_56 : decode cJ6_getChars_ba4f3 56 = .ok (.aload_n 2, 1) := by decide +kernel
theorem dJ6_getChars_ba4f3_57 : decode cJ6_getChars_ba4f3 57 = .ok (.iinc 5 (-1), 3) := by decide +kernel
theorem dJ6_getChars_ba4f3_60 : decode cJ6_getChars_ba4f3 60 = .ok (.iload 5, 2) := by decide +kernel
theorem dJ6_getChars_ba4f3_62 : decode cJ6_getChars_ba4f3 62 = .ok (.getstatic 87, 3) := by decide +kernel
theorem dJ6_getChars_ba4f3_65 : decode cJ6_getChars_ba4f3 65 = .ok (.iload 4, 2) := by decide +kernel
theorem dJ6_getChars_ba4f3_67 : decode cJ6_getChars_ba4f3 67 = .ok (.baload, 1) := by decide +kernel
theorem dJ6_getChars_ba4f3_68 : decode cJ6_getChars_ba4f3 68 = .ok (.bastore, 1) := by decide +kernel
theorem dJ6_getChars_ba4f3_69 : decode cJ6_getChars_ba4f3 69 = .ok (.goto (-47), 3) := by decide +kernel
theorem dJ6_getChars_ba4f3_72 : decode cJ6_getChars_ba4f3 72 = .ok (.aload_n 2, 1) := by decide +kernel
theorem dJ6_getChars_ba4f3_73 : decode cJ6_getChars_ba4f3 73 = .ok (.iinc 5 (-1), 3) := by decide +kernel
theorem dJ6_getChars_ba4f3_76 : decode cJ6_getChars_ba4f3 76 = .ok (.iload 5, 2) := by decide +kernel
theorem dJ6_getChars_ba4f3_78 : decode cJ6_getChars_ba4f3 78 = .ok (.getstatic 83, 3) := by decide +kernel
theorem dJ6_getChars_ba4f3_81 : decode cJ6_getChars_ba4f3 81 = .ok (.iload_n 0, 1) := by decide +kernel
theorem dJ6_getChars_ba4f3_82 : decode cJ6_getChars_ba4f3 82 = .ok (.ineg, 1) := by decide +kernel
theorem dJ6_getChars_ba4f3_83 : decode cJ6_getChars_ba4f3 83 = .ok (.baload, 1) := by decide +kernel
theorem dJ6_getChars_ba4f3_84 : decode cJ6_getChars_ba4f3 84 = .ok (.bastore, 1) := by decide +kernel
theorem dJ6_getChars_ba4f3_85 : decode cJ6_getChars_ba4f3 85 = .ok (.iload_n 0, 1) := by decide +kernel
theorem dJ6_getChars_ba4f3_86 : decode cJ6_getChars_ba4f3 86 = .ok (.bipush (-9), 2) := by decide +kernel
theorem dJ6_getChars_ba4f3_88 : decode cJ6_getChars_ba4f3 88 = .ok (.if_icmp .ge 16, 3) := by decide +kernel
theorem dJ6_getChars_ba4f3_91 : decode cJ6_getChars_ba4f3 91 = .ok (.aload_n 2, 1) := by decide +kernel
theorem dJ6_getChars_ba4f3_92 : decode cJ6_getChars_ba4f3 92 = .ok (.iinc 5 (-1), 3) := by decide +kernel
theorem dJ6_getChars_ba4f3_95 : decode cJ6_getChars_ba4f3 95 = .ok (.iload 5, 2) := by decide +kernel
theorem dJ6_getChars_ba4f3_97 : decode cJ6_getChars_ba4f3 97 = .ok (.getstatic 87, 3) := by decide +kernel
theorem dJ6_getChars_ba4f3_100 : decode cJ6_getChars_ba4f3 100 = .ok (.iload_n 0, 1) := by decide +kernel
theorem dJ6_getChars_ba4f3_101 : decode cJ6_getChars_ba4f3 101 = .ok (.ineg, 1) := by decide +kernel
theorem dJ6_getChars_ba4f3_102 : decode cJ6_getChars_ba4f3 102 = .ok (.baload, 1) := by decide +kernel
theorem dJ6_getChars_ba4f3_103 : decode cJ6_getChars_ba4f3 103 = .ok (.bastore, 1) := by decide +kernel
theorem dJ6_getChars_ba4f3_104 : decode cJ6_getChars_ba4f3 104 = .ok (.iload 6, 2) := by decide +kernel
theorem dJ6_getChars_ba4f3_106 : decode cJ6_getChars_ba4f3 106 = .ok (.ifCond .eq 12, 3) := by decide +kernel
theorem dJ6_getChars_ba4f3_109 : decode cJ6_getChars_ba4f3 109 = .ok (.aload_n 2, 1) := by decide +kernel
theorem dJ6_getChars_ba4f3_110 : decode cJ6_getChars_ba4f3 110 = .ok (.iinc 5 (-1), 3) := by decide +kernel
theorem dJ6_getChars_ba4f3_113 : decode cJ6_getChars_ba4f3 113 = .ok (.iload 5, 2) := by decide +kernel
theorem dJ6_getChars_ba4f3_115 : decode cJ6_getChars_ba4f3 115 = .ok (.bipush 45, 2) := by decide +kernel
theorem dJ6_getChars_ba4f3_117 : decode cJ6_getChars_ba4f3 117 = .ok (.bastore, 1) := by decide +kernel
theorem dJ6_getChars_ba4f3_118 : decode cJ6_getChars_ba4f3 118 = .ok (.iload 5, 2) := by decide +kernel
theorem dJ6_getChars_ba4f3_120 : decode cJ6_getChars_ba4f3 120 = .ok (.ireturn, 1) := by decide +kernel
theorem dJ6_stringSize_0f7a4_0 : decode cJ6_stringSize_0f7a4 0 = .ok (.iconst 1, 1) := by decide +kernel
theorem dJ6_stringSize_0f7a4_1 : decode cJ6_stringSize_0f7a4 1 = .ok (.istore_n 1, 1) := by decide +kernel
theorem dJ6_stringSize_0f7a4_2 : decode cJ6_stringSize_0f7a4 2 = .ok (.iload_n 0, 1) := by decide +kernel
theorem dJ6_stringSize_0f7a4_3 : decode cJ6_stringSize_0f7a4 3 = .ok (.ifCond .lt 8, 3) := by decide +kernel
theorem dJ6_stringSize_0f7a4_6 : decode cJ6_stringSize_0f7a4 6 = .ok (.iconst 0, 1) := by decide +kernel
theorem dJ6_stringSize_0f7a4_7 : decode cJ6_stringSize_0f7a4 7 = .ok (.istore_n 1, 1) := by decide +kernel
theorem dJ6_stringSize_0f7a4_8 : decode cJ6_stringSize_0f7a4 8 = .ok (.iload_n 0, 1) := by decide +kernel
theorem dJ6_stringSize_0f7a4_9 : decode cJ6_stringSize_0f7a4 9 = .ok (.ineg, 1) := by decide +kernel
theorem dJ6_stringSize_0f7a4_10 : decode cJ6_stringSize_0f7a4 10 = .ok (.istore_n 0, 1) := by decide +kernel
theorem dJ6_stringSize_0f7a4_11 : decode cJ6_stringSize_0f7a4 11 = .ok (.bipush (-10), 2) := by decide +kernel
theorem dJ6_stringSize_0f7a4_13 : decode cJ6_stringSize_0f7a4 13 = .ok (.istore_n 2, 1) := by decide +kernel
theorem dJ6_stringSize_0f7a4_14 : decode cJ6_stringSize_0f7a4 14 = .ok (.iconst 1, 1) := by decide +kernel
theorem dJ6_stringSize_0f7a4_15 : decode cJ6_stringSize_0f7a4 15 = .ok (.istore_n 3, 1) := by decide +kernel
theorem dJ6_stringSize_0f7a4_16 : decode cJ6_stringSize_0f7a4 16 = .ok (.iload_n 3, 1) := by decide +kernel
theorem dJ6_stringSize_0f7a4_17 : decode cJ6_stringSize_0f7a4 17 = .ok (.bipush 10, 2) := by decide +kernel
theorem dJ6_stringSize_0f7a4_19 : decode cJ6_stringSize_0f7a4 19 = .ok (.if_icmp .ge 23, 3) := by decide +kernel
theorem dJ6_stringSize_0f7a4_22 : decode cJ6_stringSize_0f7a4 22 = .ok (.iload_n 0, 1) := by decide +kernel
theorem dJ6_stringSize_0f7a4_23 : decode cJ6_stringSize_0f7a4 23 = .ok (.iload_n 2, 1) := by decide +kernel
theorem dJ6_stringSize_0f7a4_24 : decode cJ6_stringSize_0f7a4 24 = .ok (.if_icmp .le 7, 3) := by decide +kernel
theorem dJ6_stringSize_0f7a4_27 : decode cJ6_stringSize_0f7a4 27 = .ok (.iload_n 3, 1) := by decide +kernel
theorem dJ6_stringSize_0f7a4_28 : decode cJ6_stringSize_0f7a4 28 = .ok (.iload_n 1, 1) := by decide +kernel
theorem dJ6_stringSize_0f7a4_29 : decode cJ6_stringSize_0f7a4 29 = .ok (.iadd, 1) := by decide +kernel
theorem dJ6_stringSize_0f7a4_30 : decode cJ6_stringSize_0f7a4 30 = .ok (.ireturn, 1) := by decide +kernel
theorem dJ6_stringSize_0f7a4_31 : decode cJ6_stringSize_0f7a4 31 = .ok (.bipush 10, 2) := by decide +kernel
theorem dJ6_stringSize_0f7a4_33 : decode cJ6_stringSize_0f7a4 33 = .ok (.iload_n 2, 1) := by decide +kernel
theorem dJ6_stringSize_0f7a4_34 : decode cJ6_stringSize_0f7a4 34 = .ok (.imul, 1) := by decide +kernel
theorem dJ6_stringSize_0f7a4_35 : decode cJ6_stringSize_0f7a4 35 = .ok (.istore_n 2, 1) := by decide +kernel
theorem dJ6_stringSize_0f7a4_36 : decode cJ6_stringSize_0f7a4 36 = .ok (.iinc 3 1, 3) := by decide +kernel
theorem dJ6_stringSize_0f7a4_39 : decode cJ6_stringSize_0f7a4 39 = .ok (.goto (-23), 3) := by decide +kernel
theorem dJ6_stringSize_0f7a4_42 : decode cJ6_stringSize_0f7a4 42 = .ok (.bipush 10, 2) := by decide +kernel
theorem dJ6_stringSize_0f7a4_44 : decode cJ6_stringSize_0f7a4 44 = .ok (.iload_n 1, 1) := by decide +kernel
theorem dJ6_stringSize_0f7a4_45 : decode cJ6_stringSize_0f7a4 45 = .ok (.iadd, 1) := by decide +kernel
theorem dJ6_stringSize_0f7a4_46 : decode cJ6_stringSize_0f7a4 46 = .ok (.ireturn, 1) := by decide +kernel
theorem dJ9_floorDiv_7cf53_0 : decode cJ9_floorDiv_7cf53 0 = .ok (.iload_n 0, 1) := by decide +kernel
theorem dJ9_floorDiv_7cf53_1 : decode cJ9_floorDiv_7cf53 1 = .ok (.iload_n 1, 1) := by decide +kernel
theorem dJ9_floorDiv_7cf53_2 : decode cJ9_floorDiv_7cf53 2 = .ok (.idiv, 1) := by decide +kernel
theorem dJ9_floorDiv_7cf53_3 : decode cJ9_floorDiv_7cf53 3 = .ok (.istore_n 2, 1) := by decide +kernel
theorem dJ9_floorDiv_7cf53_4 : decode cJ9_floorDiv_7cf53 4 = .ok (.iload_n 0, 1) := by decide +kernel
theorem dJ9_floorDiv_7cf53_5 : decode cJ9_floorDiv_7cf53 5 = .ok (.iload_n 1, 1) := by decide +kernel
theorem dJ9_floorDiv_7cf53_6 : decode cJ9_floorDiv_7cf53 6 = .ok (.ixor, 1) := by decide +kernel
theorem dJ9_floorDiv_7cf53_7 : decode cJ9_floorDiv_7cf53 7 = .ok (.ifCond .ge 14, 3) := by decide +kernel
theorem dJ9_floorDiv_7cf53_10 : decode cJ9_floorDiv_7cf53 10 = .ok (.iload_n 2, 1) := by decide +kernel
theorem dJ9_floorDiv_7cf53_11 : decode cJ9_floorDiv_7cf53 11 = .ok (.iload_n 1, 1) := by decide +kernel
theorem dJ9_floorDiv_7cf53_12 : decode cJ9_floorDiv_7cf53 12 = .ok (.imul, 1) := by decide +kernel
theorem dJ9_floorDiv_7cf53_13 : decode cJ9_floorDiv_7cf53 13 = .ok (.iload_n 0, 1) := by decide +kernel
theorem dJ9_floorDiv_7cf53_14 : decode cJ9_floorDiv_7cf53 14 = .ok (.if_icmp .eq 7, 3) := by decide +kernel
theorem dJ9_floorDiv_7cf53_17 : decode cJ9_floorDiv_7cf53 17 = .ok (.iload_n 2, 1) := by decide +kernel
theorem dJ9_floorDiv_7cf53_18 : decode cJ9_floorDiv_7cf53 18 = .ok (.iconst 1, 1) := by decide +kernel
theorem dJ9_floorDiv_7cf53_19 : decode cJ9_floorDiv_7cf53 19 = .ok (.isub, 1) := by decide +kernel
theorem dJ9_floorDiv_7cf53_20 : decode cJ9_floorDiv_7cf53 20 = .ok (.ireturn, 1) := by decide +kernel
theorem dJ9_floorDiv_7cf53_21 : decode cJ9_floorDiv_7cf53 21 = .ok (.iload_n 2, 1) := by decide +kernel
theorem dJ9_floorDiv_7cf53_22 : decode cJ9_floorDiv_7cf53 22 = .ok (.ireturn, 1) := by decide +kernel
theorem dJ9_abs_0f7a4_0 : decode cJ9_abs_0f7a4 0 = .ok (.iload_n 0, 1) := by decide +kernel
theorem dJ9_abs_0f7a4_1 : decode cJ9_abs_0f7a4 1 = .ok (.ifCond .ge 8, 3) := by decide +kernel
theorem dJ9_abs_0f7a4_4 : decode cJ9_abs_0f7a4 4 = .ok (.iload_n 0, 1) := by decide +kernel
theorem dJ9_abs_0f7a4_5 : decode cJ9_abs_0f7a4 5 = .ok (.ineg, 1) := by decide +kernel
theorem dJ9_abs_0f7a4_6 : decode cJ9_abs_0f7a4 6 = .ok (.goto 4, 3) := by decide +kernel
theorem dJ9_abs_0f7a4_9 : decode cJ9_abs_0f7a4 9 = .ok (.iload_n 0, 1) := by decide +kernel
theorem dJ9_abs_0f7a4_10 : decode cJ9_abs_0f7a4 10 = .ok (.ireturn, 1) := by decide +kernel
theorem dJ9_abs_067f4_0 : decode cJ9_abs_067f4 0 = .ok (.lload_n 0, 1) := by decide +kernel
theorem dJ9_abs_067f4_1 : decode cJ9_abs_067f4 1 = .ok (.lconst 0, 1) := by decide +kernel
theorem dJ9_abs_067f4_2 : decode cJ9_abs_067f4 2 = .ok (.lcmp, 1) := by decide +kernel
theorem dJ9_abs_067f4_3 : decode cJ9_abs_067f4 3 = .ok (.ifCond .ge 8, 3) := by decide +kernel
theorem dJ9_abs_067f4_6 : decode cJ9_abs_067f4 6 = .ok (.lload_n 0, 1) := by decide +kernel
theorem dJ9_abs_067f4_7 : decode cJ9_abs_067f4 7 = .ok (.lneg, 1) := by decide +kernel
theorem dJ9_abs_067f4_8 : decode cJ9_abs_067f4 8 = .ok (.goto 4, 3) := by decide +kernel
theorem dJ9_abs_067f4_11 : decode cJ9_abs_067f4 11 = .ok (.lload_n 0, 1) := by decide +kernel
theorem dJ9_abs_067f4_12 : decode cJ9_abs_067f4 12 = .ok (.lreturn, 1) := by decide +kernel
theorem dJ9_max_7cf53_0 : decode cJ9_max_7cf53 0 = .ok (.iload_n 0, 1) := by decide +kernel
theorem dJ9_max_7cf53_1 : decode cJ9_max_7cf53 1 = .ok (.iload_n 1, 1) := by decide +kernel
theorem dJ9_max_7cf53_2 : decode cJ9_max_7cf53 2 = .ok (.if_icmp .lt 7, 3) := by decide +kernel
theorem dJ9_max_7cf53_5 : decode cJ9_max_7cf53 5 = .ok (.iload_n 0, 1) := by decide +kernel
theorem dJ9_max_7cf53_6 : decode cJ9_max_7cf53 6 = .ok (.goto 4, 3) := by decide +kernel
theorem dJ9_max_7cf53_9 : decode cJ9_max_7cf53 9 = .ok (.iload_n 1, 1) := by decide +kernel
theorem dJ9_max_7cf53_10 : decode cJ9_max_7cf53 10 = .ok (.ireturn, 1) := by decide +kernel
theorem dJ9_min_7cf53_0 : decode cJ9_min_7cf53 0 = .ok (.iload_n 0, 1) := by decide +kernel
theorem dJ9_min_7cf53_1 : decode cJ9_min_7cf53 1 = .ok (.iload_n 1, 1) := by decide +kernel
theorem dJ9_min_7cf53_2 : decode cJ9_min_7cf53 2 = .ok (.if_icmp .gt 7, 3) := by decide +kernel
theorem dJ9_min_7cf53_5 : decode cJ9_min_7cf53 5 = .ok (.iload_n 0, 1) := by decide +kernel
theorem dJ9_min_7cf53_6 : decode cJ9_min_7cf53 6 = .ok (.goto 4, 3) := by decide +kernel
theorem dJ9_min_7cf53_9 : decode cJ9_min_7cf53 9 = .ok (.iload_n 1, 1) := by decide +kernel
theorem dJ9_min_7cf53_10 : decode cJ9_min_7cf53 10 = .ok (.ireturn, 1) := by decide +kernel
set_option maxRecDepth 20000 in
theorem ggJ0_checkIndex_df160_J3_checkIndex_8e157 : GoodIn wsJ0_checkIndex_df160 wsJ3_checkIndex_8e157 := goodIn_r _ [5] (by decide +kernel) (by decide +kernel)
set_option maxRecDepth 20000 in
theorem gJ0_checkIndex_df160_J3_checkIndex_8e157 : GoodIn wsJ0_checkIndex_df160 (va_wsS RJ0 1059 yJ3_checkIndex_8e157 wsJ3_checkIndex_8e157) := goodIn_app (goodIn_of _ (by decide +kernel)) ggJ0_checkIndex_df160_J3_checkIndex_8e157
theorem dJ0_checkIndex_df160_0 : decode cJ0_checkIndex_df160 0 = .ok (.iload_n 0, 1) := by decide +kernel
theorem dJ0_checkIndex_df160_1 : decode cJ0_checkIndex_df160 1 = .ok (.iload_n 1, 1) := by decide +kernel
theorem dJ0_checkIndex_df160_2 : decode cJ0_checkIndex_df160 2 = .ok (.getstatic 1053, 3) := by decide +kernel
theorem dJ0_checkIndex_df160_5 : decode cJ0_checkIndex_df160 5 = .ok (.invokestatic 1059, 3) := by decide +kernel
theorem dJ0_checkIndex_df160_8 : decode cJ0_checkIndex_df160 8 = .ok (.pop, 1) := by decide +kernel
theorem dJ0_checkIndex_df160_9 : decode cJ0_checkIndex_df160 9 = .ok (.return_, 1) := by decide +kernel
set_option maxRecDepth 20000 in
theorem ggJ0_checkBoundsOffCount_cabcc_J3_checkFromIndexSize_8c36e : GoodIn wsJ0_checkBoundsOffCount_cabcc wsJ3_checkFromIndexSize_8c36e := goodIn_r _ [5] (by decide +kernel) (by decide +kernel)
set_option maxRecDepth 20000 in
theorem gJ0_checkBoundsOffCount_cabcc_J3_checkFromIndexSize_8c36e : GoodIn wsJ0_checkBoundsOffCount_cabcc (va_wsS RJ0 1065 yJ3_checkFromIndexSize_8c36e wsJ3_checkFromIndexSize_8c36e) := goodIn_app (goodIn_of _ (by decide +kernel)) ggJ0_checkBoundsOffCount_cabcc_J3_checkFromIndexSize_8c36e
theorem dJ0_checkBoundsOffCount_cabcc_0 : decode cJ0_checkBoundsOffCount_cabcc 0 = .ok (.iload_n 0, 1) := by decide +kernel
theorem dJ0_checkBoundsOffCount_cabcc_1 : decode cJ0_checkBoundsOffCount_cabcc 1 = .ok (.iload_n 1, 1) := by decide +kernel
theorem dJ0_checkBoundsOffCount_cabcc_2 : decode cJ0_checkBoundsOffCount_cabcc 2 = .ok (.iload_n 2, 1) := by decide +kernel
theorem dJ0_checkBoundsOffCount_cabcc_3 : decode cJ0_checkBoundsOffCount_cabcc 3 = .ok (.getstatic 1053, 3) := by decide +kernel
theorem dJ0_checkBoundsOffCount_cabcc_6 : decode cJ0_checkBoundsOffCount_cabcc 6 = .ok (.invokestatic 1065, 3) := by decide +kernel
theorem dJ0_checkBoundsOffCount_cabcc_9 : decode cJ0_checkBoundsOffCount_cabcc 9 = .ok (.ireturn, 1) := by decide +kernel
set_option maxRecDepth 20000 in
theorem ggJ0_checkBoundsBeginEnd_23922_J3_checkFromToIndex_8c36e : GoodIn wsJ0_checkBoundsBeginEnd_23922 wsJ3_checkFromToIndex_8c36e := goodIn_r _ [5] (by decide +kernel) (by decide +kernel)
set_option maxRecDepth 20000 in
theorem gJ0_checkBoundsBeginEnd_23922_J3_checkFromToIndex_8c36e : GoodIn wsJ0_checkBoundsBeginEnd_23922 (va_wsS RJ0 1062 yJ3_checkFromToIndex_8c36e wsJ3_checkFromToIndex_8c36e) := goodIn_app (goodIn_of _ (by decide +kernel)) ggJ0_checkBoundsBeginEnd_23922_J3_checkFromToIndex_8c36e
theorem dJ0_checkBoundsBeginEnd_23922_0 : decode cJ0_checkBoundsBeginEnd_23922 0 = .ok (.iload_n 0, 1) := by decide +kernel
theorem dJ0_checkBoundsBeginEnd_23922_1 : decode cJ0_checkBoundsBeginEnd_23922 1 = .ok (.iload_n 1, 1) := by decide +kernel
theorem dJ0_checkBoundsBeginEnd_23922_2 : decode cJ0_checkBoundsBeginEnd_23922 2 = .ok (.iload_n 2, 1) := by decide +kernel
theorem dJ0_checkBoundsBeginEnd_23922_3 : decode cJ0_checkBoundsBeginEnd_23922 3 = .ok (.getstatic 1053, 3) := by decide +kernel
theorem dJ0_checkBoundsBeginEnd_23922_6 : decode cJ0_checkBoundsBeginEnd_23922 6 = .ok (.invokestatic 1062, 3) := by decide +kernel
theorem dJ0_checkBoundsBeginEnd_23922_9 : decode cJ0_checkBoundsBeginEnd_23922 9 = .ok (.pop, 1) := by decide +kernel
theorem dJ0_checkBoundsBeginEnd_23922_10 : decode cJ0_checkBoundsBeginEnd_23922 10 = .ok (.return_, 1) := by decide +kernel
set_option maxRecDepth 20000 in
theorem ggJ4_init_da8c8_J5_init_d00df : GoodIn wsJ4_init_da8c8 wsJ5_init_d00df := goodIn_r _ [4, 5, 6, 7, 8, 9, 10, 11, 12, 13, 14, 15, 16, 17, 18, 19, 20, 21, 22, 23] (by decide +kernel) (by decide +kernel)
set_option maxRecDepth 20000 in
theorem gJ4_init_da8c8_J5_init_d00df : GoodIn wsJ4_init_da8c8 (wsJ5_init_d00df) := ggJ4_init_da8c8_J5_init_d00df
theorem dJ4_init_da8c8_0 : decode cJ4_init_da8c8 0 = .ok (.aload_n 0, 1) := by decide +kernel
theorem dJ4_init_da8c8_1 : decode cJ4_init_da8c8 1 = .ok (.bipush 16, 2) := by decide +kernel
theorem dJ4_init_da8c8_3 : decode cJ4_init_da8c8 3 = .ok (.invokespecial 1, 3) := by decide +kernel
theorem dJ4_init_da8c8_6 : decode cJ4_init_da8c8 6 = .ok (.return_, 1) := by decide +kernel
set_option maxRecDepth 20000 in
theorem ggJ4_append_cf468_J5_append_3fe6f : GoodIn wsJ4_append_cf468 wsJ5_append_3fe6f := goodIn_r _ [6, 7, 8, 9, 10, 11, 12, 5, 13, 14, 15, 16, 17, 18, 19, 20, 21, 22, 23, 24, 25, 26, 27, 28, 29, 30, 31, 32, 33, 34, 35, 36, 37, 38, 39, 40, 41, 42, 43, 44, 45, 46, 47, 48, 49, 50, 51, 52, 53, 54, 55, 56, 57, 58, 59, 60, 61, 62, 63, 64, 65, 66, 67, 68, 69, 70, 71, 72, 73, 74, 75, 76, 77, 78, 79, 80, 81, 82, 83, 84, 85, 86, 87, 88, 89, 90, 91, 92, 93, 94, 95, 96, 97, 98, 99, 100, 101, 102, 103, 104, 105, 106, 107, 108, 109, 110, 111, 112, 113, 114, 115, 116] (by decide +kernel) (by decide +kernel)
set_option maxRecDepth 20000 in
theorem gJ4_append_cf468_J5_append_3fe6f_s50 : GoodIn wsJ4_append_cf468 (va_wsSU RJ4 50 yJ5_append_3fe6f wsJ5_append_3fe6f) := goodIn_app (goodIn_of _ (by decide +kernel)) ggJ4_append_cf468_J5_append_3fe6f
theorem dJ4_append_cf468_0 : decode cJ4_append_cf468 0 = .ok (.aload_n 0, 1) := by decide +kernel
theorem dJ4_append_cf468_1 : decode cJ4_append_cf468 1 = .ok (.iload_n 1, 1) := by decide +kernel
theorem dJ4_append_cf468_2 : decode cJ4_append_cf468 2 = .ok (.invokespecial 50, 3) := by decide +kernel
theorem dJ4_append_cf468_5 : decode cJ4_append_cf468 5 = .ok (.pop, 1) := by decide +kernel
theorem dJ4_append_cf468_6 : decode cJ4_append_cf468 6 = .ok (.aload_n 0, 1) := by decide +kernel
theorem dJ4_append_cf468_7 : decode cJ4_append_cf468 7 = .ok (.areturn, 1) := by decide +kernel
set_option maxRecDepth 20000 in
theorem ggJ4_append_bf812_J5_append_c97b9 : GoodIn wsJ4_append_bf812 wsJ5_append_c97b9 := goodIn_r _ [6, 7, 8, 9, 10, 11, 12, 13, 14, 15, 16, 5, 17, 18, 19, 20, 21, 22, 23, 24, 25, 26, 27, 28, 29, 30, 31, 32, 33, 34, 35, 36, 37, 38, 39, 40, 41, 42, 43, 44, 45, 46, 47, 48, 49, 50, 51, 52, 53, 54, 55, 56, 57, 58, 59, 60, 61, 62, 63, 64, 65, 66, 67, 68, 69, 70, 71, 72, 73, 74, 75, 76, 77, 78, 79, 80, 81, 82, 83, 84, 85, 86, 87, 88, 89, 90, 91, 92, 93, 94, 95, 96, 97, 98, 99] (by decide +kernel) (by decide +kernel)
set_option maxRecDepth 20000 in
theorem gJ4_append_bf812_J5_append_c97b9_s53 : GoodIn wsJ4_append_bf812 (va_wsSU RJ4 53 yJ5_append_c97b9 wsJ5_append_c97b9) := goodIn_app (goodIn_of _ (by decide +kernel)) ggJ4_append_bf812_J5_append_c97b9
theorem dJ4_append_bf812_0 : decode cJ4_append_bf812 0 = .ok (.aload_n 0, 1) := by decide +kernel
theorem dJ4_append_bf812_1 : decode cJ4_append_bf812 1 = .ok (.iload_n 1, 1) := by decide +kernel
