theorem dX8_init_0 : decode cX8_init 0 = .ok (.aload_n 0, 1) := by decide +kernel
theorem dX8_init_1 : decode cX8_init 1 = .ok (.invokespecial 1, 3) := by decide +kernel
theorem dX8_init_4 : decode cX8_init 4 = .ok (.aload_n 0, 1) := by decide +kernel
theorem dX8_init_5 : decode cX8_init 5 = .ok (.bipush 8, 2) := by decide +kernel
theorem dX8_init_7 : decode cX8_init 7 = .ok (.newarray .int, 2) := by decide +kernel
theorem dX8_init_9 : decode cX8_init 9 = .ok (.putfield 7, 3) := by decide +kernel
theorem dX8_init_12 : decode cX8_init 12 = .ok (.aload_n 0, 1) := by decide +kernel
theorem dX8_init_13 : decode cX8_init 13 = .ok (.bipush 8, 2) := by decide +kernel
theorem dX8_init_15 : decode cX8_init 15 = .ok (.newarray .int, 2) := by decide +kernel
theorem dX8_init_17 : decode cX8_init 17 = .ok (.putfield 13, 3) := by decide +kernel
theorem dX8_init_20 : decode cX8_init 20 = .ok (.aload_n 0, 1) := by decide +kernel
theorem dX8_init_21 : decode cX8_init 21 = .ok (.bipush 8, 2) := by decide +kernel
theorem dX8_init_23 : decode cX8_init 23 = .ok (.newarray .boolean, 2) := by decide +kernel
theorem dX8_init_25 : decode cX8_init 25 = .ok (.putfield 16, 3) := by decide +kernel
theorem dX8_init_28 : decode cX8_init 28 = .ok (.aload_n 0, 1) := by decide +kernel
theorem dX8_init_29 : decode cX8_init 29 = .ok (.bipush 8, 2) := by decide +kernel
theorem dX8_init_31 : decode cX8_init 31 = .ok (.newarray .int, 2) := by decide +kernel
theorem dX8_init_33 : decode cX8_init 33 = .ok (.putfield 20, 3) := by decide +kernel
theorem dX8_init_36 : decode cX8_init 36 = .ok (.aload_n 0, 1) := by decide +kernel
theorem dX8_init_37 : decode cX8_init 37 = .ok (.bipush 8, 2) := by decide +kernel
theorem dX8_init_39 : decode cX8_init 39 = .ok (.newarray .int, 2) := by decide +kernel
theorem dX8_init_41 : decode cX8_init 41 = .ok (.putfield 23, 3) := by decide +kernel
theorem dX8_init_44 : decode cX8_init 44 = .ok (.aload_n 0, 1) := by decide +kernel
theorem dX8_init_45 : decode cX8_init 45 = .ok (.bipush 100, 2) := by decide +kernel
theorem dX8_init_47 : decode cX8_init 47 = .ok (.newarray .int, 2) := by decide +kernel
theorem dX8_init_49 : decode cX8_init 49 = .ok (.putfield 26, 3) := by decide +kernel
theorem dX8_init_52 : decode cX8_init 52 = .ok (.aload_n 0, 1) := by decide +kernel
theorem dX8_init_53 : decode cX8_init 53 = .ok (.bipush 100, 2) := by decide +kernel
theorem dX8_init_55 : decode cX8_init 55 = .ok (.newarray .int, 2) := by decide +kernel
theorem dX8_init_57 : decode cX8_init 57 = .ok (.putfield 29, 3) := by decide +kernel
theorem dX8_init_60 : decode cX8_init 60 = .ok (.aload_n 0, 1) := by decide +kernel
theorem dX8_init_61 : decode cX8_init 61 = .ok (.bipush 100, 2) := by decide +kernel
theorem dX8_init_63 : decode cX8_init 63 = .ok (.newarray .boolean, 2) := by decide +kernel
theorem dX8_init_65 : decode cX8_init 65 = .ok (.putfield 32, 3) := by decide +kernel
theorem dX8_init_68 : decode cX8_init 68 = .ok (.aload_n 0, 1) := by decide +kernel
theorem dX8_init_69 : decode cX8_init 69 = .ok (.bipush 100, 2) := by decide +kernel
theorem dX8_init_71 : decode cX8_init 71 = .ok (.newarray .int, 2) := by decide +kernel
theorem dX8_init_73 : decode cX8_init 73 = .ok (.putfield 35, 3) := by decide +kernel
theorem dX8_init_76 : decode cX8_init 76 = .ok (.aload_n 0, 1) := by decide +kernel
theorem dX8_init_77 : decode cX8_init 77 = .ok (.bipush 100, 2) := by decide +kernel
theorem dX8_init_79 : decode cX8_init 79 = .ok (.newarray .int, 2) := by decide +kernel
theorem dX8_init_81 : decode cX8_init 81 = .ok (.putfield 38, 3) := by decide +kernel
theorem dX8_init_84 : decode cX8_init 84 = .ok (.aload_n 0, 1) := by decide +kernel
theorem dX8_init_85 : decode cX8_init 85 = .ok (.bipush 100, 2) := by decide +kernel
theorem dX8_init_87 : decode cX8_init 87 = .ok (.newarray .int, 2) := by decide +kernel
theorem dX8_init_89 : decode cX8_init 89 = .ok (.putfield 41, 3) := by decide +kernel
theorem dX8_init_92 : decode cX8_init 92 = .ok (.aload_n 0, 1) := by decide +kernel
theorem dX8_init_93 : decode cX8_init 93 = .ok (.bipush 12, 2) := by decide +kernel
theorem dX8_init_95 : decode cX8_init 95 = .ok (.newarray .int, 2) := by decide +kernel
theorem dX8_init_97 : decode cX8_init 97 = .ok (.putfield 44, 3) := by decide +kernel
theorem dX8_init_100 : decode cX8_init 100 = .ok (.aload_n 0, 1) := by decide +kernel
theorem dX8_init_101 : decode cX8_init 101 = .ok (.bipush 12, 2) := by decide +kernel
theorem dX8_init_103 : decode cX8_init 103 = .ok (.newarray .int, 2) := by decide +kernel
theorem dX8_init_105 : decode cX8_init 105 = .ok (.putfield 47, 3) := by decide +kernel
theorem dX8_init_108 : decode cX8_init 108 = .ok (.aload_n 0, 1) := by decide +kernel
theorem dX8_init_109 : decode cX8_init 109 = .ok (.sipush 240, 3) := by decide +kernel
theorem dX8_init_112 : decode cX8_init 112 = .ok (.newarray .int, 2) := by decide +kernel
theorem dX8_init_114 : decode cX8_init 114 = .ok (.putfield 50, 3) := by decide +kernel
theorem dX8_init_117 : decode cX8_init 117 = .ok (.aload_n 0, 1) := by decide +kernel
theorem dX8_init_118 : decode cX8_init 118 = .ok (.bipush 12, 2) := by decide +kernel
theorem dX8_init_120 : decode cX8_init 120 = .ok (.newarray .int, 2) := by decide +kernel
theorem dX8_init_122 : decode cX8_init 122 = .ok (.putfield 53, 3) := by decide +kernel
theorem dX8_init_125 : decode cX8_init 125 = .ok (.aload_n 0, 1) := by decide +kernel
theorem dX8_init_126 : decode cX8_init 126 = .ok (.iconst 4, 1) := by decide +kernel
theorem dX8_init_127 : decode cX8_init 127 = .ok (.putfield 56, 3) := by decide +kernel
theorem dX8_init_130 : decode cX8_init 130 = .ok (.aload_n 0, 1) := by decide +kernel
theorem dX8_init_131 : decode cX8_init 131 = .ok (.iconst 2, 1) := by decide +kernel
theorem dX8_init_132 : decode cX8_init 132 = .ok (.putfield 60, 3) := by decide +kernel
theorem dX8_init_135 : decode cX8_init 135 = .ok (.aload_n 0, 1) := by decide +kernel
theorem dX8_init_136 : decode cX8_init 136 = .ok (.iconst 1, 1) := by decide +kernel
theorem dX8_init_137 : decode cX8_init 137 = .ok (.putfield 63, 3) := by decide +kernel
theorem dX8_init_140 : decode cX8_init 140 = .ok (.aload_n 0, 1) := by decide +kernel
theorem dX8_init_141 : decode cX8_init 141 = .ok (.sipush 3072, 3) := by decide +kernel
theorem dX8_init_144 : decode cX8_init 144 = .ok (.newarray .int, 2) := by decide +kernel
theorem dX8_init_146 : decode cX8_init 146 = .ok (.putfield 66, 3) := by decide +kernel
theorem dX8_init_149 : decode cX8_init 149 = .ok (.aload_n 0, 1) := by decide +kernel
theorem dX8_init_150 : decode cX8_init 150 = .ok (.bipush 100, 2) := by decide +kernel
theorem dX8_init_152 : decode cX8_init 152 = .ok (.newarray .int, 2) := by decide +kernel
theorem dX8_init_154 : decode cX8_init 154 = .ok (.putfield 69, 3) := by decide +kernel
theorem dX8_init_157 : decode cX8_init 157 = .ok (.aload_n 0, 1) := by decide +kernel
theorem dX8_init_158 : decode cX8_init 158 = .ok (.bipush 10, 2) := by decide +kernel
theorem dX8_init_160 : decode cX8_init 160 = .ok (.newarray .int, 2) := by decide +kernel
theorem dX8_init_162 : decode cX8_init 162 = .ok (.putfield 72, 3) := by decide +kernel
theorem dX8_init_165 : decode cX8_init 165 = .ok (.aload_n 0, 1) := by decide +kernel
theorem dX8_init_166 : decode cX8_init 166 = .ok (.iconst 4, 1) := by decide +kernel
theorem dX8_init_167 : decode cX8_init 167 = .ok (.newarray .int, 2) := by decide +kernel
theorem dX8_init_169 : decode cX8_init 169 = .ok (.putfield 75, 3) := by decide +kernel
theorem dX8_init_172 : decode cX8_init 172 = .ok (.aload_n 0, 1) := by decide +kernel
theorem dX8_init_173 : decode cX8_init 173 = .ok (.iconst 3, 1) := by decide +kernel
theorem dX8_init_174 : decode cX8_init 174 = .ok (.newarray .int, 2) := by decide +kernel
theorem dX8_init_176 : decode cX8_init 176 = .ok (.putfield 78, 3) := by decide +kernel
theorem dX8_init_179 : decode cX8_init 179 = .ok (.aload_n 0, 1) := by decide +kernel
theorem dX8_init_180 : decode cX8_init 180 = .ok (.bipush 7, 2) := by decide +kernel
theorem dX8_init_182 : decode cX8_init 182 = .ok (.newarray .int, 2) := by decide +kernel
theorem dX8_init_184 : decode cX8_init 184 = .ok (.putfield 81, 3) := by decide +kernel
theorem dX8_init_187 : decode cX8_init 187 = .ok (.aload_n 0, 1) := by decide +kernel
theorem dX8_init_188 : decode cX8_init 188 = .ok (.bipush 84, 2) := by decide +kernel
theorem dX8_init_190 : decode cX8_init 190 = .ok (.newarray .int, 2) := by decide +kernel
theorem dX8_init_192 : decode cX8_init 192 = .ok (.putfield 84, 3) := by decide +kernel
theorem dX8_init_195 : decode cX8_init 195 = .ok (.aload_n 0, 1) := by decide +kernel
theorem dX8_init_196 : decode cX8_init 196 = .ok (.bipush 12, 2) := by decide +kernel
theorem dX8_init_198 : decode cX8_init 198 = .ok (.newarray .int, 2) := by decide +kernel
theorem dX8_init_200 : decode cX8_init 200 = .ok (.putfield 87, 3) := by decide +kernel
theorem dX8_init_203 : decode cX8_init 203 = .ok (.aload_n 0, 1) := by decide +kernel
theorem dX8_init_204 : decode cX8_init 204 = .ok (.iconst 4, 1) := by decide +kernel
theorem dX8_init_205 : decode cX8_init 205 = .ok (.newarray .boolean, 2) := by decide +kernel
theorem dX8_init_207 : decode cX8_init 207 = .ok (.putfield 90, 3) := by decide +kernel
theorem dX8_init_210 : decode cX8_init 210 = .ok (.aload_n 0, 1) := by decide +kernel
theorem dX8_init_211 : decode cX8_init 211 = .ok (.iconst 4, 1) := by decide +kernel
theorem dX8_init_212 : decode cX8_init 212 = .ok (.newarray .int, 2) := by decide +kernel
theorem dX8_init_214 : decode cX8_init 214 = .ok (.putfield 93, 3) := by decide +kernel
theorem dX8_init_217 : decode cX8_init 217 = .ok (.aload_n 0, 1) := by decide +kernel
theorem dX8_init_218 : decode cX8_init 218 = .ok (.iconst 4, 1) := by decide +kernel
theorem dX8_init_219 : decode cX8_init 219 = .ok (.newarray .int, 2) := by decide +kernel
theorem dX8_init_221 : decode cX8_init 221 = .ok (.putfield 96, 3) := by decide +kernel
theorem dX8_init_224 : decode cX8_init 224 = .ok (.aload_n 0, 1) := by decide +kernel
theorem dX8_init_225 : decode cX8_init 225 = .ok (.sipush 240, 3) := by decide +kernel
theorem dX8_init_228 : decode cX8_init 228 = .ok (.newarray .int, 2) := by decide +kernel
theorem dX8_init_230 : decode cX8_init 230 = .ok (.putfield 99, 3) := by decide +kernel
theorem dX8_init_233 : decode cX8_init 233 = .ok (.aload_n 0, 1) := by decide +kernel
theorem dX8_init_234 : decode cX8_init 234 = .ok (.bipush 60, 2) := by decide +kernel
theorem dX8_init_236 : decode cX8_init 236 = .ok (.newarray .int, 2) := by decide +kernel
theorem dX8_init_238 : decode cX8_init 238 = .ok (.putfield 102, 3) := by decide +kernel
theorem dX8_init_241 : decode cX8_init 241 = .ok (.return_, 1) := by decide +kernel
theorem dX8_in_0 : decode cX8_in 0 = .ok (.iload_n 0, 1) := by decide +kernel
theorem dX8_in_1 : decode cX8_in 1 = .ok (.iload_n 1, 1) := by decide +kernel
theorem dX8_in_2 : decode cX8_in 2 = .ok (.if_icmp .lt 12, 3) := by decide +kernel
theorem dX8_in_5 : decode cX8_in 5 = .ok (.iload_n 0, 1) := by decide +kernel
theorem dX8_in_6 : decode cX8_in 6 = .ok (.iload_n 2, 1) := by decide +kernel
theorem dX8_in_7 : decode cX8_in 7 = .ok (.if_icmp .gt 7, 3) := by decide +kernel
theorem dX8_in_10 : decode cX8_in 10 = .ok (.iconst 1, 1) := by decide +kernel
theorem dX8_in_11 : decode cX8_in 11 = .ok (.goto 4, 3) := by decide +kernel
theorem dX8_in_14 : decode cX8_in 14 = .ok (.iconst 0, 1) := by decide +kernel
theorem dX8_in_15 : decode cX8_in 15 = .ok (.ireturn, 1) := by decide +kernel
set_option maxRecDepth 20000 in
theorem ggX8_isKind_X8_in : GoodIn wsX8_isKind wsX8_in := goodIn_r _ [5] (by decide +kernel) (by decide +kernel)
set_option maxRecDepth 20000 in
theorem gX8_isKind_X8_in : GoodIn wsX8_isKind (va_wsS RX8 108 yX8_in wsX8_in) := goodIn_app (goodIn_of _ (by decide +kernel)) ggX8_isKind_X8_in
theorem dX8_isKind_0 : decode cX8_isKind 0 = .ok (.iload_n 1, 1) := by decide +kernel
theorem dX8_isKind_1 : decode cX8_isKind 1 = .ok (.iconst 0, 1) := by decide +kernel
theorem dX8_isKind_2 : decode cX8_isKind 2 = .ok (.aload_n 0, 1) := by decide +kernel
theorem dX8_isKind_3 : decode cX8_isKind 3 = .ok (.getfield 105, 3) := by decide +kernel
theorem dX8_isKind_6 : decode cX8_isKind 6 = .ok (.iconst 1, 1) := by decide +kernel
theorem dX8_isKind_7 : decode cX8_isKind 7 = .ok (.isub, 1) := by decide +kernel
theorem dX8_isKind_8 : decode cX8_isKind 8 = .ok (.invokestatic 108, 3) := by decide +kernel
theorem dX8_isKind_11 : decode cX8_isKind 11 = .ok (.ireturn, 1) := by decide +kernel
set_option maxRecDepth 20000 in
theorem ggX8_isPiece_X8_in : GoodIn wsX8_isPiece wsX8_in := goodIn_r _ [5] (by decide +kernel) (by decide +kernel)
set_option maxRecDepth 20000 in
theorem gX8_isPiece_X8_in : GoodIn wsX8_isPiece (va_wsS RX8 108 yX8_in wsX8_in) := goodIn_app (goodIn_of _ (by decide +kernel)) ggX8_isPiece_X8_in
theorem dX8_isPiece_0 : decode cX8_isPiece 0 = .ok (.iload_n 1, 1) := by decide +kernel
theorem dX8_isPiece_1 : decode cX8_isPiece 1 = .ok (.iconst 0, 1) := by decide +kernel
theorem dX8_isPiece_2 : decode cX8_isPiece 2 = .ok (.aload_n 0, 1) := by decide +kernel
theorem dX8_isPiece_3 : decode cX8_isPiece 3 = .ok (.getfield 112, 3) := by decide +kernel
theorem dX8_isPiece_6 : decode cX8_isPiece 6 = .ok (.iconst 1, 1) := by decide +kernel
theorem dX8_isPiece_7 : decode cX8_isPiece 7 = .ok (.isub, 1) := by decide +kernel
theorem dX8_isPiece_8 : decode cX8_isPiece 8 = .ok (.invokestatic 108, 3) := by decide +kernel
theorem dX8_isPiece_11 : decode cX8_isPiece 11 = .ok (.ireturn, 1) := by decide +kernel
set_option maxRecDepth 20000 in
theorem ggX8_kind_X8_in : GoodIn wsX8_kind wsX8_in := goodIn_r _ [10] (by decide +kernel) (by decide +kernel)
set_option maxRecDepth 20000 in
theorem gX8_kind_X8_in : GoodIn wsX8_kind (va_wsS RX8 108 yX8_in wsX8_in) := goodIn_app (goodIn_of _ (by decide +kernel)) ggX8_kind_X8_in
theorem dX8_kind_0 : decode cX8_kind 0 = .ok (.iload_n 1, 1) := by decide +kernel
theorem dX8_kind_1 : decode cX8_kind 1 = .ok (.iconst 0, 1) := by decide +kernel
theorem dX8_kind_2 : decode cX8_kind 2 = .ok (.iconst 3, 1) := by decide +kernel
theorem dX8_kind_3 : decode cX8_kind 3 = .ok (.invokestatic 108, 3) := by decide +kernel
theorem dX8_kind_6 : decode cX8_kind 6 = .ok (.ifCond .eq 34, 3) := by decide +kernel
theorem dX8_kind_9 : decode cX8_kind 9 = .ok (.iload_n 2, 1) := by decide +kernel
theorem dX8_kind_10 : decode cX8_kind 10 = .ok (.iconst 0, 1) := by decide +kernel
theorem dX8_kind_11 : decode cX8_kind 11 = .ok (.iconst 2, 1) := by decide +kernel
theorem dX8_kind_12 : decode cX8_kind 12 = .ok (.invokestatic 108, 3) := by decide +kernel
theorem dX8_kind_15 : decode cX8_kind 15 = .ok (.ifCond .eq 25, 3) := by decide +kernel
theorem dX8_kind_18 : decode cX8_kind 18 = .ok (.iload 4, 2) := by decide +kernel
theorem dX8_kind_20 : decode cX8_kind 20 = .ok (.iconst 0, 1) := by decide +kernel
theorem dX8_kind_21 : decode cX8_kind 21 = .ok (.bipush 9, 2) := by decide +kernel
theorem dX8_kind_23 : decode cX8_kind 23 = .ok (.invokestatic 108, 3) := by decide +kernel
theorem dX8_kind_26 : decode cX8_kind 26 = .ok (.ifCond .eq 14, 3) := by decide +kernel
theorem dX8_kind_29 : decode cX8_kind 29 = .ok (.iload 5, 2) := by decide +kernel
theorem dX8_kind_31 : decode cX8_kind 31 = .ok (.iconst 0, 1) := by decide +kernel
theorem dX8_kind_32 : decode cX8_kind 32 = .ok (.bipush 9, 2) := by decide +kernel
theorem dX8_kind_34 : decode cX8_kind 34 = .ok (.invokestatic 108, 3) := by decide +kernel
theorem dX8_kind_37 : decode cX8_kind 37 = .ok (.ifCond .ne 6, 3) := by decide +kernel
theorem dX8_kind_40 : decode cX8_kind 40 = .ok (.bipush (-2), 2) := by decide +kernel
theorem dX8_kind_42 : decode cX8_kind 42 = .ok (.ireturn, 1) := by decide +kernel
theorem dX8_kind_43 : decode cX8_kind 43 = .ok (.aload_n 0, 1) := by decide +kernel
theorem dX8_kind_44 : decode cX8_kind 44 = .ok (.getfield 105, 3) := by decide +kernel
theorem dX8_kind_47 : decode cX8_kind 47 = .ok (.bipush 8, 2) := by decide +kernel
theorem dX8_kind_49 : decode cX8_kind 49 = .ok (.if_icmp .ne 6, 3) := by decide +kernel
theorem dX8_kind_52 : decode cX8_kind 52 = .ok (.bipush (-3), 2) := by decide +kernel
theorem dX8_kind_54 : decode cX8_kind 54 = .ok (.ireturn, 1) := by decide +kernel
theorem dX8_kind_55 : decode cX8_kind 55 = .ok (.aload_n 0, 1) := by decide +kernel
theorem dX8_kind_56 : decode cX8_kind 56 = .ok (.getfield 7, 3) := by decide +kernel
theorem dX8_kind_59 : decode cX8_kind 59 = .ok (.aload_n 0, 1) := by decide +kernel
theorem dX8_kind_60 : decode cX8_kind 60 = .ok (.getfield 105, 3) := by decide +kernel
theorem dX8_kind_63 : decode cX8_kind 63 = .ok (.iload_n 1, 1) := by decide +kernel
theorem dX8_kind_64 : decode cX8_kind 64 = .ok (.iastore, 1) := by decide +kernel
theorem dX8_kind_65 : decode cX8_kind 65 = .ok (.aload_n 0, 1) := by decide +kernel
theorem dX8_kind_66 : decode cX8_kind 66 = .ok (.getfield 13, 3) := by decide +kernel
theorem dX8_kind_69 : decode cX8_kind 69 = .ok (.aload_n 0, 1) := by decide +kernel
theorem dX8_kind_70 : decode cX8_kind 70 = .ok (.getfield 105, 3) := by decide +kernel
theorem dX8_kind_73 : decode cX8_kind 73 = .ok (.iload_n 2, 1) := by decide +kernel
theorem dX8_kind_74 : decode cX8_kind 74 = .ok (.iastore, 1) := by decide +kernel
theorem dX8_kind_75 : decode cX8_kind 75 = .ok (.aload_n 0, 1) := by decide +kernel
theorem dX8_kind_76 : decode cX8_kind 76 = .ok (.getfield 16, 3) := by decide +kernel
theorem dX8_kind_79 : decode cX8_kind 79 = .ok (.aload_n 0, 1) := by decide +kernel
theorem dX8_kind_80 : decode cX8_kind 80 = .ok (.getfield 105, 3) := by decide +kernel
theorem dX8_kind_83 : decode cX8_kind 83 = .ok (.iload_n 3, 1) := by decide +kernel
theorem dX8_kind_84 : decode cX8_kind 84 = .ok (.bastore, 1) := by decide +kernel
theorem dX8_kind_85 : decode cX8_kind 85 = .ok (.aload_n 0, 1) := by decide +kernel
theorem dX8_kind_86 : decode cX8_kind 86 = .ok (.getfield 20, 3) := by decide +kernel
theorem dX8_kind_89 : decode cX8_kind 89 = .ok (.aload_n 0, 1) := by decide +kernel
theorem dX8_kind_90 : decode cX8_kind 90 = .ok (.getfield 105, 3) := by decide +kernel
theorem dX8_kind_93 : decode cX8_kind 93 = .ok (.iload 4, 2) := by decide +kernel
theorem dX8_kind_95 : decode cX8_kind 95 = .ok (.iastore, 1) := by decide +kernel
theorem dX8_kind_96 : decode cX8_kind 96 = .ok (.aload_n 0, 1) := by decide +kernel
theorem dX8_kind_97 : decode cX8_kind 97 = .ok (.getfield 23, 3) := by decide +kernel
theorem dX8_kind_100 : decode cX8_kind 100 = .ok (.aload_n 0, 1) := by decide +kernel
theorem dX8_kind_101 : decode cX8_kind 101 = .ok (.getfield 105, 3) := by decide +kernel
theorem dX8_kind_104 : decode cX8_kind 104 = .ok (.iload 5, 2) := by decide +kernel
theorem dX8_kind_106 : decode cX8_kind 106 = .ok (.iastore, 1) := by decide +kernel
theorem dX8_kind_107 : decode cX8_kind 107 = .ok (.aload_n 0, 1) := by decide +kernel
theorem dX8_kind_108 : decode cX8_kind 108 = .ok (.dup, 1) := by decide +kernel
theorem dX8_kind_109 : decode cX8_kind 109 = .ok (.getfield 105, 3) := by decide +kernel
theorem dX8_kind_112 : decode cX8_kind 112 = .ok (.iconst 1, 1) := by decide +kernel
theorem dX8_kind_113 : decode cX8_kind 113 = .ok (.iadd, 1) := by decide +kernel
theorem dX8_kind_114 : decode cX8_kind 114 = .ok (.putfield 105, 3) := by decide +kernel
theorem dX8_kind_117 : decode cX8_kind 117 = .ok (.aload_n 0, 1) := by decide +kernel
theorem dX8_kind_118 : decode cX8_kind 118 = .ok (.getfield 105, 3) := by decide +kernel
theorem dX8_kind_121 : decode cX8_kind 121 = .ok (.iconst 1, 1) := by decide +kernel
theorem dX8_kind_122 : decode cX8_kind 122 = .ok (.isub, 1) := by decide +kernel
theorem dX8_kind_123 : decode cX8_kind 123 = .ok (.ireturn, 1) := by decide +kernel
set_option maxRecDepth 20000 in
theorem ggX8_piece_X8_isKind : GoodIn wsX8_piece wsX8_isKind := goodIn_r _ [11, 12, 13, 14, 10, 15, 16, 17, 18, 19, 20, 21, 22, 23, 24, 25, 26, 27, 28, 29, 30, 31, 32, 33, 34, 35, 36, 37, 38, 39, 40, 41, 42, 43, 44, 45, 46, 47, 48, 49, 50, 51, 52] (by decide +kernel) (by decide +kernel)
set_option maxRecDepth 20000 in
theorem gX8_piece_X8_isKind : GoodIn wsX8_piece (wsV RX8 115 RX8 yX8_isKind wsX8_isKind) := goodIn_app (goodIn_of _ (by decide +kernel)) ggX8_piece_X8_isKind
set_option maxRecDepth 20000 in
theorem ggX8_piece_X8_in : GoodIn wsX8_piece wsX8_in := goodIn_r _ [15] (by decide +kernel) (by decide +kernel)
set_option maxRecDepth 20000 in
theorem gX8_piece_X8_in : GoodIn wsX8_piece (va_wsS RX8 108 yX8_in wsX8_in) := goodIn_app (goodIn_of _ (by decide +kernel)) ggX8_piece_X8_in
theorem dX8_piece_0 : decode cX8_piece 0 = .ok (.aload_n 0, 1) := by decide +kernel
theorem dX8_piece_1 : decode cX8_piece 1 = .ok (.iload_n 1, 1) := by decide +kernel
theorem dX8_piece_2 : decode cX8_piece 2 = .ok (.invokevirtual 115, 3) := by decide +kernel
theorem dX8_piece_5 : decode cX8_piece 5 = .ok (.ifCond .eq 12, 3) := by decide +kernel
theorem dX8_piece_8 : decode cX8_piece 8 = .ok (.iload_n 2, 1) := by decide +kernel
theorem dX8_piece_9 : decode cX8_piece 9 = .ok (.iconst 0, 1) := by decide +kernel
theorem dX8_piece_10 : decode cX8_piece 10 = .ok (.iconst 5, 1) := by decide +kernel
theorem dX8_piece_11 : decode cX8_piece 11 = .ok (.invokestatic 108, 3) := by decide +kernel
theorem dX8_piece_14 : decode cX8_piece 14 = .ok (.ifCond .ne 6, 3) := by decide +kernel
theorem dX8_piece_17 : decode cX8_piece 17 = .ok (.bipush (-2), 2) := by decide +kernel
theorem dX8_piece_19 : decode cX8_piece 19 = .ok (.ireturn, 1) := by decide +kernel
theorem dX8_piece_20 : decode cX8_piece 20 = .ok (.aload_n 0, 1) := by decide +kernel
theorem dX8_piece_21 : decode cX8_piece 21 = .ok (.getfield 112, 3) := by decide +kernel
theorem dX8_piece_24 : decode cX8_piece 24 = .ok (.bipush 100, 2) := by decide +kernel
theorem dX8_piece_26 : decode cX8_piece 26 = .ok (.if_icmp .ne 6, 3) := by decide +kernel
theorem dX8_piece_29 : decode cX8_piece 29 = .ok (.bipush (-3), 2) := by decide +kernel
theorem dX8_piece_31 : decode cX8_piece 31 = .ok (.ireturn, 1) := by decide +kernel
theorem dX8_piece_32 : decode cX8_piece 32 = .ok (.aload_n 0, 1) := by decide +kernel
theorem dX8_piece_33 : decode cX8_piece 33 = .ok (.getfield 26, 3) := by decide +kernel
theorem dX8_piece_36 : decode cX8_piece 36 = .ok (.aload_n 0, 1) := by decide +kernel
theorem dX8_piece_37 : decode cX8_piece 37 = .ok (.getfield 112, 3) := by decide +kernel
theorem dX8_piece_40 : decode cX8_piece 40 = .ok (.iload_n 1, 1) := by decide +kernel
theorem dX8_piece_41 : decode cX8_piece 41 = .ok (.iastore, 1) := by decide +kernel
theorem dX8_piece_42 : decode cX8_piece 42 = .ok (.aload_n 0, 1) := by decide +kernel
theorem dX8_piece_43 : decode cX8_piece 43 = .ok (.getfield 29, 3) := by decide +kernel
theorem dX8_piece_46 : decode cX8_piece 46 = .ok (.aload_n 0, 1) := by decide +kernel
theorem dX8_piece_47 : decode cX8_piece 47 = .ok (.getfield 112, 3) := by decide +kernel
theorem dX8_piece_50 : decode cX8_piece 50 = .ok (.iload_n 2, 1) := by decide +kernel
theorem dX8_piece_51 : decode cX8_piece 51 = .ok (.iastore, 1) := by decide +kernel
theorem dX8_piece_52 : decode cX8_piece 52 = .ok (.aload_n 0, 1) := by decide +kernel
theorem dX8_piece_53 : decode cX8_piece 53 = .ok (.getfield 32, 3) := by decide +kernel
theorem dX8_piece_56 : decode cX8_piece 56 = .ok (.aload_n 0, 1) := by decide +kernel
theorem dX8_piece_57 : decode cX8_piece 57 = .ok (.getfield 112, 3) := by decide +kernel
theorem dX8_piece_60 : decode cX8_piece 60 = .ok (.iload_n 3, 1) := by decide +kernel
theorem dX8_piece_61 : decode cX8_piece 61 = .ok (.bastore, 1) := by decide +kernel
theorem dX8_piece_62 : decode cX8_piece 62 = .ok (.aload_n 0, 1) := by decide +kernel
theorem dX8_piece_63 : decode cX8_piece 63 = .ok (.getfield 35, 3) := by decide +kernel
theorem dX8_piece_66 : decode cX8_piece 66 = .ok (.aload_n 0, 1) := by decide +kernel
theorem dX8_piece_67 : decode cX8_piece 67 = .ok (.getfield 112, 3) := by decide +kernel
theorem dX8_piece_70 : decode cX8_piece 70 = .ok (.iconst 0, 1) := by decide +kernel
theorem dX8_piece_71 : decode cX8_piece 71 = .ok (.iastore, 1) := by decide +kernel
theorem dX8_piece_72 : decode cX8_piece 72 = .ok (.aload_n 0, 1) := by decide +kernel
theorem dX8_piece_73 : decode cX8_piece 73 = .ok (.getfield 41, 3) := by decide +kernel
theorem dX8_piece_76 : decode cX8_piece 76 = .ok (.aload_n 0, 1) := by decide +kernel
theorem dX8_piece_77 : decode cX8_piece 77 = .ok (.getfield 112, 3) := by decide +kernel
theorem dX8_piece_80 : decode cX8_piece 80 = .ok (.iconst (-1), 1) := by decide +kernel
theorem dX8_piece_81 : decode cX8_piece 81 = .ok (.iastore, 1) := by decide +kernel
theorem dX8_piece_82 : decode cX8_piece 82 = .ok (.aload_n 0, 1) := by decide +kernel
theorem dX8_piece_83 : decode cX8_piece 83 = .ok (.dup, 1) := by decide +kernel
theorem dX8_piece_84 : decode cX8_piece 84 = .ok (.getfield 112, 3) := by decide +kernel
theorem dX8_piece_87 : decode cX8_piece 87 = .ok (.iconst 1, 1) := by decide +kernel
theorem dX8_piece_88 : decode cX8_piece 88 = .ok (.iadd, 1) := by decide +kernel
theorem dX8_piece_89 : decode cX8_piece 89 = .ok (.putfield 112, 3) := by decide +kernel
theorem dX8_piece_92 : decode cX8_piece 92 = .ok (.aload_n 0, 1) := by decide +kernel
theorem dX8_piece_93 : decode cX8_piece 93 = .ok (.getfield 112, 3) := by decide +kernel
theorem dX8_piece_96 : decode cX8_piece 96 = .ok (.iconst 1, 1) := by decide +kernel
theorem dX8_piece_97 : decode cX8_piece 97 = .ok (.isub, 1) := by decide +kernel
theorem dX8_piece_98 : decode cX8_piece 98 = .ok (.ireturn, 1) := by decide +kernel
set_option maxRecDepth 20000 in
theorem ggX8_about_X8_isPiece : GoodIn wsX8_about wsX8_isPiece := goodIn_r _ [11, 12, 13, 14, 10, 15, 16, 17, 18, 19, 20, 21, 22, 23, 24, 25, 26, 27, 28, 29, 30, 31, 32, 33, 34, 35, 36, 37, 38, 39, 40, 41, 42, 43, 44, 45, 46, 47, 48, 49, 50, 51, 52] (by decide +kernel) (by decide +kernel)
set_option maxRecDepth 20000 in
theorem gX8_about_X8_isPiece : GoodIn wsX8_about (wsV RX8 119 RX8 yX8_isPiece wsX8_isPiece) := goodIn_app (goodIn_of _ (by decide +kernel)) ggX8_about_X8_isPiece
theorem dX8_about_0 : decode cX8_about 0 = .ok (.aload_n 0, 1) := by decide +kernel
theorem dX8_about_1 : decode cX8_about 1 = .ok (.iload_n 1, 1) := by decide +kernel
theorem dX8_about_2 : decode cX8_about 2 = .ok (.invokevirtual 119, 3) := by decide +kernel
theorem dX8_about_5 : decode cX8_about 5 = .ok (.ifCond .ne 6, 3) := by decide +kernel
theorem dX8_about_8 : decode cX8_about 8 = .ok (.bipush (-2), 2) := by decide +kernel
theorem dX8_about_10 : decode cX8_about 10 = .ok (.ireturn, 1) := by decide +kernel
theorem dX8_about_11 : decode cX8_about 11 = .ok (.iload_n 2, 1) := by decide +kernel
theorem dX8_about_12 : decode cX8_about 12 = .ok (.tableswitch 90 0 5 #[40, 47, 54, 69, 76, 83], 40) := by decide +kernel
theorem dX8_about_52 : decode cX8_about 52 = .ok (.aload_n 0, 1) := by decide +kernel
theorem dX8_about_53 : decode cX8_about 53 = .ok (.getfield 26, 3) := by decide +kernel
theorem dX8_about_56 : decode cX8_about 56 = .ok (.iload_n 1, 1) := by decide +kernel
theorem dX8_about_57 : decode cX8_about 57 = .ok (.iaload, 1) := by decide +kernel
theorem dX8_about_58 : decode cX8_about 58 = .ok (.ireturn, 1) := by decide +kernel
theorem dX8_about_59 : decode cX8_about 59 = .ok (.aload_n 0, 1) := by decide +kernel
theorem dX8_about_60 : decode cX8_about 60 = .ok (.getfield 29, 3) := by decide +kernel
theorem dX8_about_63 : decode cX8_about 63 = .ok (.iload_n 1, 1) := by decide +kernel
theorem dX8_about_64 : decode cX8_about 64 = .ok (.iaload, 1) := by decide +kernel
theorem dX8_about_65 : decode cX8_about 65 = .ok (.ireturn, 1) := by decide +kernel
theorem dX8_about_66 : decode cX8_about 66 = .ok (.aload_n 0, 1) := by decide +kernel
theorem dX8_about_67 : decode cX8_about 67 = .ok (.getfield 32, 3) := by decide +kernel
theorem dX8_about_70 : decode cX8_about 70 = .ok (.iload_n 1, 1) := by decide +kernel
theorem dX8_about_71 : decode cX8_about 71 = .ok (.baload, 1) := by decide +kernel
theorem dX8_about_72 : decode cX8_about 72 = .ok (.ifCond .eq 7, 3) := by decide +kernel
theorem dX8_about_75 : decode cX8_about 75 = .ok (.iconst 1, 1) := by decide +kernel
theorem dX8_about_76 : decode cX8_about 76 = .ok (.goto 4, 3) := by decide +kernel
theorem dX8_about_79 : decode cX8_about 79 = .ok (.iconst 0, 1) := by decide +kernel
theorem dX8_about_80 : decode cX8_about 80 = .ok (.ireturn, 1) := by decide +kernel
theorem dX8_about_81 : decode cX8_about 81 = .ok (.aload_n 0, 1) := by decide +kernel
theorem dX8_about_82 : decode cX8_about 82 = .ok (.getfield 35, 3) := by decide +kernel
theorem dX8_about_85 : decode cX8_about 85 = .ok (.iload_n 1, 1) := by decide +kernel
theorem dX8_about_86 : decode cX8_about 86 = .ok (.iaload, 1) := by decide +kernel
theorem dX8_about_87 : decode cX8_about 87 = .ok (.ireturn, 1) := by decide +kernel
theorem dX8_about_88 : decode cX8_about 88 = .ok (.aload_n 0, 1) := by decide +kernel
theorem dX8_about_89 : decode cX8_about 89 = .ok (.getfield 38, 3) := by decide +kernel
theorem dX8_about_92 : decode cX8_about 92 = .ok (.iload_n 1, 1) := by decide +kernel
theorem dX8_about_93 : decode cX8_about 93 = .ok (.iaload, 1) := by decide +kernel
theorem dX8_about_94 : decode cX8_about 94 = .ok (.ireturn, 1) := by decide +kernel
theorem dX8_about_95 : decode cX8_about 95 = .ok (.aload_n 0, 1) := by decide +kernel
theorem dX8_about_96 : decode cX8_about 96 = .ok (.getfield 41, 3) := by decide +kernel
theorem dX8_about_99 : decode cX8_about 99 = .ok (.iload_n 1, 1) := by decide +kernel
theorem dX8_about_100 : decode cX8_about 100 = .ok (.iaload, 1) := by decide +kernel
theorem dX8_about_101 : decode cX8_about 101 = .ok (.ireturn, 1) := by decide +kernel
theorem dX8_about_102 : decode cX8_about 102 = .ok (.bipush (-2), 2) := by decide +kernel
theorem dX8_about_104 : decode cX8_about 104 = .ok (.ireturn, 1) := by decide +kernel
set_option maxRecDepth 20000 in
theorem ggX8_chip_X8_isPiece : GoodIn wsX8_chip wsX8_isPiece := goodIn_r _ [6, 7, 8, 9, 5, 10, 11, 12, 13, 14, 15, 16, 17, 18, 19, 20, 21, 22, 23, 24, 25, 26, 27, 28, 29, 30, 31, 32, 33, 34, 35, 36, 37, 38, 39, 40, 41, 42, 43, 44, 45, 46, 47] (by decide +kernel) (by decide +kernel)
set_option maxRecDepth 20000 in
theorem gX8_chip_X8_isPiece : GoodIn wsX8_chip (wsV RX8 119 RX8 yX8_isPiece wsX8_isPiece) := goodIn_app (goodIn_of _ (by decide +kernel)) ggX8_chip_X8_isPiece
theorem dX8_chip_0 : decode cX8_chip 0 = .ok (.aload_n 0, 1) := by decide +kernel
theorem dX8_chip_1 : decode cX8_chip 1 = .ok (.iload_n 1, 1) := by decide +kernel
theorem dX8_chip_2 : decode cX8_chip 2 = .ok (.invokevirtual 119, 3) := by decide +kernel
theorem dX8_chip_5 : decode cX8_chip 5 = .ok (.ifCond .ne 6, 3) := by decide +kernel
theorem dX8_chip_8 : decode cX8_chip 8 = .ok (.bipush (-2), 2) := by decide +kernel
theorem dX8_chip_10 : decode cX8_chip 10 = .ok (.ireturn, 1) := by decide +kernel
theorem dX8_chip_11 : decode cX8_chip 11 = .ok (.aload_n 0, 1) := by decide +kernel
theorem dX8_chip_12 : decode cX8_chip 12 = .ok (.getfield 32, 3) := by decide +kernel
theorem dX8_chip_15 : decode cX8_chip 15 = .ok (.iload_n 1, 1) := by decide +kernel
theorem dX8_chip_16 : decode cX8_chip 16 = .ok (.iload_n 2, 1) := by decide +kernel
theorem dX8_chip_17 : decode cX8_chip 17 = .ok (.bastore, 1) := by decide +kernel
theorem dX8_chip_18 : decode cX8_chip 18 = .ok (.iconst 1, 1) := by decide +kernel
theorem dX8_chip_19 : decode cX8_chip 19 = .ok (.ireturn, 1) := by decide +kernel
set_option maxRecDepth 20000 in
theorem ggX8_lost_X8_isPiece : GoodIn wsX8_lost wsX8_isPiece := goodIn_r _ [6, 7, 8, 9, 5, 10, 11, 12, 13, 14, 15, 16, 17, 18, 19, 20, 21, 22, 23, 24, 25, 26, 27, 28, 29, 30, 31, 32, 33, 34, 35, 36, 37, 38, 39, 40, 41, 42, 43, 44, 45, 46, 47] (by decide +kernel) (by decide +kernel)
set_option maxRecDepth 20000 in
theorem gX8_lost_X8_isPiece : GoodIn wsX8_lost (wsV RX8 119 RX8 yX8_isPiece wsX8_isPiece) := goodIn_app (goodIn_of _ (by decide +kernel)) ggX8_lost_X8_isPiece
theorem dX8_lost_0 : decode cX8_lost 0 = .ok (.aload_n 0, 1) := by decide +kernel
theorem dX8_lost_1 : decode cX8_lost 1 = .ok (.iload_n 1, 1) := by decide +kernel
theorem dX8_lost_2 : decode cX8_lost 2 = .ok (.invokevirtual 119, 3) := by decide +kernel
theorem dX8_lost_5 : decode cX8_lost 5 = .ok (.ifCond .ne 6, 3) := by decide +kernel
theorem dX8_lost_8 : decode cX8_lost 8 = .ok (.bipush (-2), 2) := by decide +kernel
theorem dX8_lost_10 : decode cX8_lost 10 = .ok (.ireturn, 1) := by decide +kernel
theorem dX8_lost_11 : decode cX8_lost 11 = .ok (.aload_n 0, 1) := by decide +kernel
theorem dX8_lost_12 : decode cX8_lost 12 = .ok (.getfield 35, 3) := by decide +kernel
theorem dX8_lost_15 : decode cX8_lost 15 = .ok (.iload_n 1, 1) := by decide +kernel
theorem dX8_lost_16 : decode cX8_lost 16 = .ok (.iaload, 1) := by decide +kernel
theorem dX8_lost_17 : decode cX8_lost 17 = .ok (.iconst 2, 1) := by decide +kernel
theorem dX8_lost_18 : decode cX8_lost 18 = .ok (.if_icmp .ne 6, 3) := by decide +kernel
theorem dX8_lost_21 : decode cX8_lost 21 = .ok (.bipush (-4), 2) := by decide +kernel
theorem dX8_lost_23 : decode cX8_lost 23 = .ok (.ireturn, 1) := by decide +kernel
theorem dX8_lost_24 : decode cX8_lost 24 = .ok (.aload_n 0, 1) := by decide +kernel
theorem dX8_lost_25 : decode cX8_lost 25 = .ok (.getfield 35, 3) := by decide +kernel
theorem dX8_lost_28 : decode cX8_lost 28 = .ok (.iload_n 1, 1) := by decide +kernel
theorem dX8_lost_29 : decode cX8_lost 29 = .ok (.aload_n 0, 1) := by decide +kernel
theorem dX8_lost_30 : decode cX8_lost 30 = .ok (.getfield 35, 3) := by decide +kernel
theorem dX8_lost_33 : decode cX8_lost 33 = .ok (.iload_n 1, 1) := by decide +kernel
theorem dX8_lost_34 : decode cX8_lost 34 = .ok (.iaload, 1) := by decide +kernel
theorem dX8_lost_35 : decode cX8_lost 35 = .ok (.iconst 4, 1) := by decide +kernel
theorem dX8_lost_36 : decode cX8_lost 36 = .ok (.if_icmp .ne 7, 3) := by decide +kernel
theorem dX8_lost_39 : decode cX8_lost 39 = .ok (.iconst 0, 1) := by decide +kernel
theorem dX8_lost_40 : decode cX8_lost 40 = .ok (.goto 4, 3) := by decide +kernel
theorem dX8_lost_43 : decode cX8_lost 43 = .ok (.iconst 4, 1) := by decide +kernel
theorem dX8_lost_44 : decode cX8_lost 44 = .ok (.iastore, 1) := by decide +kernel
theorem dX8_lost_45 : decode cX8_lost 45 = .ok (.aload_n 0, 1) := by decide +kernel
theorem dX8_lost_46 : decode cX8_lost 46 = .ok (.getfield 35, 3) := by decide +kernel
theorem dX8_lost_49 : decode cX8_lost 49 = .ok (.iload_n 1, 1) := by decide +kernel
theorem dX8_lost_50 : decode cX8_lost 50 = .ok (.iaload, 1) := by decide +kernel
theorem dX8_lost_51 : decode cX8_lost 51 = .ok (.ireturn, 1) := by decide +kernel
set_option maxRecDepth 20000 in
theorem ggX8_again_X8_isPiece : GoodIn wsX8_again wsX8_isPiece := goodIn_r _ [6, 7, 8, 9, 5, 10, 11, 12, 13, 14, 15, 16, 17, 18, 19, 20, 21, 22, 23, 24, 25, 26, 27, 28, 29, 30, 31, 32, 33, 34, 35, 36, 37, 38, 39, 40, 41, 42, 43, 44, 45, 46, 47] (by decide +kernel) (by decide +kernel)
set_option maxRecDepth 20000 in
theorem gX8_again_X8_isPiece : GoodIn wsX8_again (wsV RX8 119 RX8 yX8_isPiece wsX8_isPiece) := goodIn_app (goodIn_of _ (by decide +kernel)) ggX8_again_X8_isPiece
theorem dX8_again_0 : decode cX8_again 0 = .ok (.aload_n 0, 1) := by decide +kernel
theorem dX8_again_1 : decode cX8_again 1 = .ok (.iload_n 1, 1) := by decide +kernel
theorem dX8_again_2 : decode cX8_again 2 = .ok (.invokevirtual 119, 3) := by decide +kernel
theorem dX8_again_5 : decode cX8_again 5 = .ok (.ifCond .ne 6, 3) := by decide +kernel
theorem dX8_again_8 : decode cX8_again 8 = .ok (.bipush (-2), 2) := by decide +kernel
theorem dX8_again_10 : decode cX8_again 10 = .ok (.ireturn, 1) := by decide +kernel
theorem dX8_again_11 : decode cX8_again 11 = .ok (.aload_n 0, 1) := by decide +kernel
theorem dX8_again_12 : decode cX8_again 12 = .ok (.getfield 35, 3) := by decide +kernel
theorem dX8_again_15 : decode cX8_again 15 = .ok (.iload_n 1, 1) := by decide +kernel
theorem dX8_again_16 : decode cX8_again 16 = .ok (.iaload, 1) := by decide +kernel
theorem dX8_again_17 : decode cX8_again 17 = .ok (.iconst 3, 1) := by decide +kernel
theorem dX8_again_18 : decode cX8_again 18 = .ok (.if_icmp .eq 6, 3) := by decide +kernel
theorem dX8_again_21 : decode cX8_again 21 = .ok (.bipush (-4), 2) := by decide +kernel
theorem dX8_again_23 : decode cX8_again 23 = .ok (.ireturn, 1) := by decide +kernel
theorem dX8_again_24 : decode cX8_again 24 = .ok (.aload_n 0, 1) := by decide +kernel
theorem dX8_again_25 : decode cX8_again 25 = .ok (.getfield 35, 3) := by decide +kernel
theorem dX8_again_28 : decode cX8_again 28 = .ok (.iload_n 1, 1) := by decide +kernel
theorem dX8_again_29 : decode cX8_again 29 = .ok (.iconst 1, 1) := by decide +kernel
theorem dX8_again_30 : decode cX8_again 30 = .ok (.iastore, 1) := by decide +kernel
theorem dX8_again_31 : decode cX8_again 31 = .ok (.iconst 1, 1) := by decide +kernel
theorem dX8_again_32 : decode cX8_again 32 = .ok (.ireturn, 1) := by decide +kernel
theorem dX8_is_0 : decode cX8_is 0 = .ok (.aload_n 0, 1) := by decide +kernel
theorem dX8_is_1 : decode cX8_is 1 = .ok (.getfield 35, 3) := by decide +kernel
theorem dX8_is_4 : decode cX8_is 4 = .ok (.iload_n 1, 1) := by decide +kernel
theorem dX8_is_5 : decode cX8_is 5 = .ok (.iaload, 1) := by decide +kernel
theorem dX8_is_6 : decode cX8_is 6 = .ok (.iload 4, 2) := by decide +kernel
theorem dX8_is_8 : decode cX8_is 8 = .ok (.if_icmp .ne 35, 3) := by decide +kernel
theorem dX8_is_11 : decode cX8_is 11 = .ok (.iload_n 2, 1) := by decide +kernel
theorem dX8_is_12 : decode cX8_is 12 = .ok (.ifCond .lt 13, 3) := by decide +kernel
theorem dX8_is_15 : decode cX8_is 15 = .ok (.aload_n 0, 1) := by decide +kernel
theorem dX8_is_16 : decode cX8_is 16 = .ok (.getfield 29, 3) := by decide +kernel
theorem dX8_is_19 : decode cX8_is 19 = .ok (.iload_n 1, 1) := by decide +kernel
theorem dX8_is_20 : decode cX8_is 20 = .ok (.iaload, 1) := by decide +kernel
theorem dX8_is_21 : decode cX8_is 21 = .ok (.iload_n 2, 1) := by decide +kernel
theorem dX8_is_22 : decode cX8_is 22 = .ok (.if_icmp .ne 21, 3) := by decide +kernel
theorem dX8_is_25 : decode cX8_is 25 = .ok (.iload_n 3, 1) := by decide +kernel
theorem dX8_is_26 : decode cX8_is 26 = .ok (.ifCond .lt 13, 3) := by decide +kernel
theorem dX8_is_29 : decode cX8_is 29 = .ok (.aload_n 0, 1) := by decide +kernel
theorem dX8_is_30 : decode cX8_is 30 = .ok (.getfield 26, 3) := by decide +kernel
theorem dX8_is_33 : decode cX8_is 33 = .ok (.iload_n 1, 1) := by decide +kernel
theorem dX8_is_34 : decode cX8_is 34 = .ok (.iaload, 1) := by decide +kernel
theorem dX8_is_35 : decode cX8_is 35 = .ok (.iload_n 3, 1) := by decide +kernel
theorem dX8_is_36 : decode cX8_is 36 = .ok (.if_icmp .ne 7, 3) := by decide +kernel
theorem dX8_is_39 : decode cX8_is 39 = .ok (.iconst 1, 1) := by decide +kernel
theorem dX8_is_40 : decode cX8_is 40 = .ok (.goto 4, 3) := by decide +kernel
theorem dX8_is_43 : decode cX8_is 43 = .ok (.iconst 0, 1) := by decide +kernel
theorem dX8_is_44 : decode cX8_is 44 = .ok (.ireturn, 1) := by decide +kernel
set_option maxRecDepth 20000 in
theorem ggX8_pieces_X8_in : GoodIn wsX8_pieces wsX8_in := goodIn_r _ [5] (by decide +kernel) (by decide +kernel)
set_option maxRecDepth 20000 in
theorem gX8_pieces_X8_in : GoodIn wsX8_pieces (va_wsS RX8 108 yX8_in wsX8_in) := goodIn_app (goodIn_of _ (by decide +kernel)) ggX8_pieces_X8_in
set_option maxRecDepth 20000 in
theorem ggX8_pieces_X8_isKind : GoodIn wsX8_pieces wsX8_isKind := goodIn_r _ [9, 10, 2, 3, 4, 5, 18, 19, 20, 21, 22, 23, 24, 25, 26, 27, 28, 29, 30, 31, 32, 33, 34, 35, 36, 37, 38, 39, 40, 41, 42, 43, 44, 45, 46, 47, 48, 49, 50, 51, 52, 53, 54] (by decide +kernel) (by decide +kernel)
set_option maxRecDepth 20000 in
theorem gX8_pieces_X8_isKind : GoodIn wsX8_pieces (wsV RX8 115 RX8 yX8_isKind wsX8_isKind) := goodIn_app (goodIn_of _ (by decide +kernel)) ggX8_pieces_X8_isKind
set_option maxRecDepth 20000 in
theorem ggX8_pieces_X8_is : GoodIn wsX8_pieces wsX8_is := goodIn_r _ [14, 15, 16, 17, 18, 19, 20, 21, 22, 23, 24, 25, 26, 27, 28, 29, 30, 31, 32, 33, 34, 35, 36, 37, 38, 39, 40, 41, 42, 43, 44, 45, 46, 47, 48, 49, 50, 51, 52, 53, 54] (by decide +kernel) (by decide +kernel)
set_option maxRecDepth 20000 in
theorem gX8_pieces_X8_is : GoodIn wsX8_pieces (wsV RX8 122 RX8 yX8_is wsX8_is) := goodIn_app (goodIn_of _ (by decide +kernel)) ggX8_pieces_X8_is
theorem dX8_pieces_0 : decode cX8_pieces 0 = .ok (.iload_n 1, 1) := by decide +kernel
theorem dX8_pieces_1 : decode cX8_pieces 1 = .ok (.iconst (-1), 1) := by decide +kernel
theorem dX8_pieces_2 : decode cX8_pieces 2 = .ok (.iconst 5, 1) := by decide +kernel
theorem dX8_pieces_3 : decode cX8_pieces 3 = .ok (.invokestatic 108, 3) := by decide +kernel
theorem dX8_pieces_6 : decode cX8_pieces 6 = .ok (.ifCond .eq 25, 3) := by decide +kernel
theorem dX8_pieces_9 : decode cX8_pieces 9 = .ok (.iload_n 2, 1) := by decide +kernel
theorem dX8_pieces_10 : decode cX8_pieces 10 = .ok (.iconst (-1), 1) := by decide +kernel
theorem dX8_pieces_11 : decode cX8_pieces 11 = .ok (.if_icmp .eq 11, 3) := by decide +kernel
theorem dX8_pieces_14 : decode cX8_pieces 14 = .ok (.aload_n 0, 1) := by decide +kernel
theorem dX8_pieces_15 : decode cX8_pieces 15 = .ok (.iload_n 2, 1) := by decide +kernel
theorem dX8_pieces_16 : decode cX8_pieces 16 = .ok (.invokevirtual 115, 3) := by decide +kernel
theorem dX8_pieces_19 : decode cX8_pieces 19 = .ok (.ifCond .eq 12, 3) := by decide +kernel
theorem dX8_pieces_22 : decode cX8_pieces 22 = .ok (.iload_n 3, 1) := by decide +kernel
theorem dX8_pieces_23 : decode cX8_pieces 23 = .ok (.iconst 0, 1) := by decide +kernel
theorem dX8_pieces_24 : decode cX8_pieces 24 = .ok (.iconst 4, 1) := by decide +kernel
theorem dX8_pieces_25 : decode cX8_pieces 25 = .ok (.invokestatic 108, 3) := by decide +kernel
theorem dX8_pieces_28 : decode cX8_pieces 28 = .ok (.ifCond .ne 6, 3) := by decide +kernel
theorem dX8_pieces_31 : decode cX8_pieces 31 = .ok (.bipush (-2), 2) := by decide +kernel
theorem dX8_pieces_33 : decode cX8_pieces 33 = .ok (.ireturn, 1) := by decide +kernel
theorem dX8_pieces_34 : decode cX8_pieces 34 = .ok (.iconst 0, 1) := by decide +kernel
theorem dX8_pieces_35 : decode cX8_pieces 35 = .ok (.istore 4, 2) := by decide +kernel
theorem dX8_pieces_37 : decode cX8_pieces 37 = .ok (.iconst 0, 1) := by decide +kernel
theorem dX8_pieces_38 : decode cX8_pieces 38 = .ok (.istore 5, 2) := by decide +kernel
theorem dX8_pieces_40 : decode cX8_pieces 40 = .ok (.iload 5, 2) := by decide +kernel
theorem dX8_pieces_42 : decode cX8_pieces 42 = .ok (.aload_n 0, 1) := by decide +kernel
theorem dX8_pieces_43 : decode cX8_pieces 43 = .ok (.getfield 112, 3) := by decide +kernel
theorem dX8_pieces_46 : decode cX8_pieces 46 = .ok (.if_icmp .ge 31, 3) := by decide +kernel
theorem dX8_pieces_49 : decode cX8_pieces 49 = .ok (.iload 4, 2) := by decide +kernel
theorem dX8_pieces_51 : decode cX8_pieces 51 = .ok (.aload_n 0, 1) := by decide +kernel
theorem dX8_pieces_52 : decode cX8_pieces 52 = .ok (.iload 5, 2) := by decide +kernel
theorem dX8_pieces_54 : decode cX8_pieces 54 = .ok (.iload_n 1, 1) := by decide +kernel
theorem dX8_pieces_55 : decode cX8_pieces 55 = .ok (.iload_n 2, 1) := by decide +kernel
theorem dX8_pieces_56 : decode cX8_pieces 56 = .ok (.iload_n 3, 1) := by decide +kernel
theorem dX8_pieces_57 : decode cX8_pieces 57 = .ok (.invokevirtual 122, 3) := by decide +kernel
theorem dX8_pieces_60 : decode cX8_pieces 60 = .ok (.ifCond .eq 7, 3) := by decide +kernel
theorem dX8_pieces_63 : decode cX8_pieces 63 = .ok (.iconst 1, 1) := by decide +kernel
theorem dX8_pieces_64 : decode cX8_pieces 64 = .ok (.goto 4, 3) := by decide +kernel
theorem dX8_pieces_67 : decode cX8_pieces 67 = .ok (.iconst 0, 1) := by decide +kernel
theorem dX8_pieces_68 : decode cX8_pieces 68 = .ok (.iadd, 1) := by decide +kernel
theorem dX8_pieces_69 : decode cX8_pieces 69 = .ok (.istore 4, 2) := by decide +kernel
theorem dX8_pieces_71 : decode cX8_pieces 71 = .ok (.iinc 5 1, 3) := by decide +kernel
theorem dX8_pieces_74 : decode cX8_pieces 74 = .ok (.goto (-34), 3) := by decide +kernel
theorem dX8_pieces_77 : decode cX8_pieces 77 = .ok (.iload 4, 2) := by decide +kernel
theorem dX8_pieces_79 : decode cX8_pieces 79 = .ok (.ireturn, 1) := by decide +kernel
set_option maxRecDepth 20000 in
theorem ggX8_scan_X8_isSheet : GoodIn wsX8_scan wsX8_isSheet := goodIn_r _ [9, 10, 11, 8, 12] (by decide +kernel) (by decide +kernel)
set_option maxRecDepth 20000 in
theorem gX8_scan_X8_isSheet : GoodIn wsX8_scan (va_wsS RX8 126 yX8_isSheet wsX8_isSheet) := goodIn_app (goodIn_of _ (by decide +kernel)) ggX8_scan_X8_isSheet
set_option maxRecDepth 20000 in
theorem ggX8_scan_X8_in : GoodIn wsX8_scan wsX8_in := goodIn_r _ [12] (by decide +kernel) (by decide +kernel)
set_option maxRecDepth 20000 in
theorem gX8_scan_X8_in : GoodIn wsX8_scan (va_wsS RX8 108 yX8_in wsX8_in) := goodIn_app (goodIn_of _ (by decide +kernel)) ggX8_scan_X8_in
set_option maxRecDepth 20000 in
theorem ggX8_scan_X8_meets : GoodIn wsX8_scan wsX8_meets := goodIn_r _ [16, 17, 23, 24, 25, 26, 27, 28, 29, 30, 31, 32, 33, 34, 35, 36, 37, 38, 39, 40, 41, 42, 43, 44, 45, 46, 47, 48, 49, 50, 51, 52, 53, 54, 55, 56, 57, 58, 59] (by decide +kernel) (by decide +kernel)
set_option maxRecDepth 20000 in
theorem gX8_scan_X8_meets : GoodIn wsX8_scan (wsV RX8 129 RX8 yX8_meets wsX8_meets) := goodIn_app (goodIn_of _ (by decide +kernel)) ggX8_scan_X8_meets
set_option maxRecDepth 20000 in
theorem ggX8_scan_X8_isPiece : GoodIn wsX8_scan wsX8_isPiece := goodIn_r _ [21, 22, 10, 11, 8, 12, 23, 24, 25, 26, 27, 28, 29, 30, 31, 32, 33, 34, 35, 36, 37, 38, 39, 40, 41, 42, 43, 44, 45, 46, 47, 48, 49, 50, 51, 52, 53, 54, 55, 56, 57, 58, 59] (by decide +kernel) (by decide +kernel)
set_option maxRecDepth 20000 in
theorem gX8_scan_X8_isPiece : GoodIn wsX8_scan (wsV RX8 119 RX8 yX8_isPiece wsX8_isPiece) := goodIn_app (goodIn_of _ (by decide +kernel)) ggX8_scan_X8_isPiece
theorem dX8_scan_0 : decode cX8_scan 0 = .ok (.iload_n 1, 1) := by decide +kernel
theorem dX8_scan_1 : decode cX8_scan 1 = .ok (.invokestatic 126, 3) := by decide +kernel
theorem dX8_scan_4 : decode cX8_scan 4 = .ok (.ifCond .eq 13, 3) := by decide +kernel
theorem dX8_scan_7 : decode cX8_scan 7 = .ok (.iload_n 2, 1) := by decide +kernel
theorem dX8_scan_8 : decode cX8_scan 8 = .ok (.iconst 0, 1) := by decide +kernel
theorem dX8_scan_9 : decode cX8_scan 9 = .ok (.bipush 60, 2) := by decide +kernel
theorem dX8_scan_11 : decode cX8_scan 11 = .ok (.invokestatic 108, 3) := by decide +kernel
theorem dX8_scan_14 : decode cX8_scan 14 = .ok (.ifCond .ne 6, 3) := by decide +kernel
theorem dX8_scan_17 : decode cX8_scan 17 = .ok (.bipush (-2), 2) := by decide +kernel
theorem dX8_scan_19 : decode cX8_scan 19 = .ok (.ireturn, 1) := by decide +kernel
theorem dX8_scan_20 : decode cX8_scan 20 = .ok (.aload_n 0, 1) := by decide +kernel
theorem dX8_scan_21 : decode cX8_scan 21 = .ok (.getfield 90, 3) := by decide +kernel
theorem dX8_scan_24 : decode cX8_scan 24 = .ok (.iload_n 1, 1) := by decide +kernel
theorem dX8_scan_25 : decode cX8_scan 25 = .ok (.baload, 1) := by decide +kernel
theorem dX8_scan_26 : decode cX8_scan 26 = .ok (.ifCond .ne 9, 3) := by decide +kernel
theorem dX8_scan_29 : decode cX8_scan 29 = .ok (.aload_n 0, 1) := by decide +kernel
theorem dX8_scan_30 : decode cX8_scan 30 = .ok (.iconst 1, 1) := by decide +kernel
theorem dX8_scan_31 : decode cX8_scan 31 = .ok (.invokevirtual 129, 3) := by decide +kernel
theorem dX8_scan_34 : decode cX8_scan 34 = .ok (.ireturn, 1) := by decide +kernel
theorem dX8_scan_35 : decode cX8_scan 35 = .ok (.iload_n 2, 1) := by decide +kernel
theorem dX8_scan_36 : decode cX8_scan 36 = .ok (.aload_n 0, 1) := by decide +kernel
theorem dX8_scan_37 : decode cX8_scan 37 = .ok (.getfield 96, 3) := by decide +kernel
theorem dX8_scan_40 : decode cX8_scan 40 = .ok (.iload_n 1, 1) := by decide +kernel
theorem dX8_scan_41 : decode cX8_scan 41 = .ok (.iaload, 1) := by decide +kernel
theorem dX8_scan_42 : decode cX8_scan 42 = .ok (.if_icmp .le 9, 3) := by decide +kernel
theorem dX8_scan_45 : decode cX8_scan 45 = .ok (.aload_n 0, 1) := by decide +kernel
theorem dX8_scan_46 : decode cX8_scan 46 = .ok (.iconst 2, 1) := by decide +kernel
theorem dX8_scan_47 : decode cX8_scan 47 = .ok (.invokevirtual 129, 3) := by decide +kernel
theorem dX8_scan_50 : decode cX8_scan 50 = .ok (.ireturn, 1) := by decide +kernel
theorem dX8_scan_51 : decode cX8_scan 51 = .ok (.iconst 0, 1) := by decide +kernel
theorem dX8_scan_52 : decode cX8_scan 52 = .ok (.istore_n 3, 1) := by decide +kernel
theorem dX8_scan_53 : decode cX8_scan 53 = .ok (.iconst 0, 1) := by decide +kernel
theorem dX8_scan_54 : decode cX8_scan 54 = .ok (.istore 4, 2) := by decide +kernel
theorem dX8_scan_56 : decode cX8_scan 56 = .ok (.iload 4, 2) := by decide +kernel
theorem dX8_scan_58 : decode cX8_scan 58 = .ok (.iload_n 2, 1) := by decide +kernel
theorem dX8_scan_59 : decode cX8_scan 59 = .ok (.if_icmp .ge 63, 3) := by decide +kernel
theorem dX8_scan_62 : decode cX8_scan 62 = .ok (.aload_n 0, 1) := by decide +kernel
theorem dX8_scan_63 : decode cX8_scan 63 = .ok (.getfield 99, 3) := by decide +kernel
theorem dX8_scan_66 : decode cX8_scan 66 = .ok (.bipush 60, 2) := by decide +kernel
theorem dX8_scan_68 : decode cX8_scan 68 = .ok (.iload_n 1, 1) := by decide +kernel
theorem dX8_scan_69 : decode cX8_scan 69 = .ok (.imul, 1) := by decide +kernel
theorem dX8_scan_70 : decode cX8_scan 70 = .ok (.iload 4, 2) := by decide +kernel
theorem dX8_scan_72 : decode cX8_scan 72 = .ok (.iadd, 1) := by decide +kernel
theorem dX8_scan_73 : decode cX8_scan 73 = .ok (.iaload, 1) := by decide +kernel
theorem dX8_scan_74 : decode cX8_scan 74 = .ok (.istore 5, 2) := by decide +kernel
theorem dX8_scan_76 : decode cX8_scan 76 = .ok (.aload_n 0, 1) := by decide +kernel
theorem dX8_scan_77 : decode cX8_scan 77 = .ok (.iload 5, 2) := by decide +kernel
theorem dX8_scan_79 : decode cX8_scan 79 = .ok (.invokevirtual 119, 3) := by decide +kernel
theorem dX8_scan_82 : decode cX8_scan 82 = .ok (.ifCond .eq 34, 3) := by decide +kernel
theorem dX8_scan_85 : decode cX8_scan 85 = .ok (.aload_n 0, 1) := by decide +kernel
theorem dX8_scan_86 : decode cX8_scan 86 = .ok (.getfield 35, 3) := by decide +kernel
theorem dX8_scan_89 : decode cX8_scan 89 = .ok (.iload 5, 2) := by decide +kernel
theorem dX8_scan_91 : decode cX8_scan 91 = .ok (.iaload, 1) := by decide +kernel
theorem dX8_scan_92 : decode cX8_scan 92 = .ok (.ifCond .ne 24, 3) := by decide +kernel
theorem dX8_scan_95 : decode cX8_scan 95 = .ok (.aload_n 0, 1) := by decide +kernel
theorem dX8_scan_96 : decode cX8_scan 96 = .ok (.getfield 32, 3) := by decide +kernel
theorem dX8_scan_99 : decode cX8_scan 99 = .ok (.iload 5, 2) := by decide +kernel
theorem dX8_scan_101 : decode cX8_scan 101 = .ok (.baload, 1) := by decide +kernel
theorem dX8_scan_102 : decode cX8_scan 102 = .ok (.ifCond .eq 14, 3) := by decide +kernel
theorem dX8_scan_105 : decode cX8_scan 105 = .ok (.aload_n 0, 1) := by decide +kernel
theorem dX8_scan_106 : decode cX8_scan 106 = .ok (.getfield 35, 3) := by decide +kernel
theorem dX8_scan_109 : decode cX8_scan 109 = .ok (.iload 5, 2) := by decide +kernel
theorem dX8_scan_111 : decode cX8_scan 111 = .ok (.iconst 1, 1) := by decide +kernel
theorem dX8_scan_112 : decode cX8_scan 112 = .ok (.iastore, 1) := by decide +kernel
theorem dX8_scan_113 : decode cX8_scan 113 = .ok (.iinc 3 1, 3) := by decide +kernel
theorem dX8_scan_116 : decode cX8_scan 116 = .ok (.iinc 4 1, 3) := by decide +kernel
theorem dX8_scan_119 : decode cX8_scan 119 = .ok (.goto (-63), 3) := by decide +kernel
theorem dX8_scan_122 : decode cX8_scan 122 = .ok (.iload_n 3, 1) := by decide +kernel
theorem dX8_scan_123 : decode cX8_scan 123 = .ok (.ireturn, 1) := by decide +kernel
set_option maxRecDepth 20000 in
theorem ggX8_hand_X8_isPiece : GoodIn wsX8_hand wsX8_isPiece := goodIn_r _ [6, 7, 8, 9, 5, 10, 11, 12, 13, 14, 15, 16, 17, 18, 19, 20, 21, 22, 23, 24, 25, 26, 27, 28, 29, 30, 31, 32, 33, 34, 35, 36, 37, 38, 39, 40, 41, 42, 43, 44, 45, 46, 47] (by decide +kernel) (by decide +kernel)
set_option maxRecDepth 20000 in
theorem gX8_hand_X8_isPiece : GoodIn wsX8_hand (wsV RX8 119 RX8 yX8_isPiece wsX8_isPiece) := goodIn_app (goodIn_of _ (by decide +kernel)) ggX8_hand_X8_isPiece
theorem dX8_hand_0 : decode cX8_hand 0 = .ok (.aload_n 0, 1) := by decide +kernel
theorem dX8_hand_1 : decode cX8_hand 1 = .ok (.iload_n 1, 1) := by decide +kernel
theorem dX8_hand_2 : decode cX8_hand 2 = .ok (.invokevirtual 119, 3) := by decide +kernel
theorem dX8_hand_5 : decode cX8_hand 5 = .ok (.ifCond .ne 6, 3) := by decide +kernel
theorem dX8_hand_8 : decode cX8_hand 8 = .ok (.bipush (-2), 2) := by decide +kernel
theorem dX8_hand_10 : decode cX8_hand 10 = .ok (.ireturn, 1) := by decide +kernel
theorem dX8_hand_11 : decode cX8_hand 11 = .ok (.aload_n 0, 1) := by decide +kernel
theorem dX8_hand_12 : decode cX8_hand 12 = .ok (.getfield 35, 3) := by decide +kernel
theorem dX8_hand_15 : decode cX8_hand 15 = .ok (.iload_n 1, 1) := by decide +kernel
theorem dX8_hand_16 : decode cX8_hand 16 = .ok (.iaload, 1) := by decide +kernel
theorem dX8_hand_17 : decode cX8_hand 17 = .ok (.ifCond .eq 6, 3) := by decide +kernel
theorem dX8_hand_20 : decode cX8_hand 20 = .ok (.bipush (-4), 2) := by decide +kernel
theorem dX8_hand_22 : decode cX8_hand 22 = .ok (.ireturn, 1) := by decide +kernel
theorem dX8_hand_23 : decode cX8_hand 23 = .ok (.aload_n 0, 1) := by decide +kernel
theorem dX8_hand_24 : decode cX8_hand 24 = .ok (.getfield 35, 3) := by decide +kernel
theorem dX8_hand_27 : decode cX8_hand 27 = .ok (.iload_n 1, 1) := by decide +kernel
theorem dX8_hand_28 : decode cX8_hand 28 = .ok (.iconst 1, 1) := by decide +kernel
theorem dX8_hand_29 : decode cX8_hand 29 = .ok (.iastore, 1) := by decide +kernel
theorem dX8_hand_30 : decode cX8_hand 30 = .ok (.iconst 1, 1) := by decide +kernel
theorem dX8_hand_31 : decode cX8_hand 31 = .ok (.ireturn, 1) := by decide +kernel
set_option maxRecDepth 20000 in
theorem ggX8_batch_X8_isKind : GoodIn wsX8_batch wsX8_isKind := goodIn_r _ [13, 14, 15, 16, 12, 17, 24, 25, 26, 27, 28, 29, 30, 31, 32, 33, 34, 35, 36, 37, 38, 39, 40, 41, 42, 43, 44, 45, 46, 47, 48, 49, 50, 51, 52, 53, 54, 55, 56, 57, 58, 59, 60] (by decide +kernel) (by decide +kernel)
set_option maxRecDepth 20000 in
theorem gX8_batch_X8_isKind : GoodIn wsX8_batch (wsV RX8 115 RX8 yX8_isKind wsX8_isKind) := goodIn_app (goodIn_of _ (by decide +kernel)) ggX8_batch_X8_isKind
set_option maxRecDepth 20000 in
theorem ggX8_batch_X8_in : GoodIn wsX8_batch wsX8_in := goodIn_r _ [17] (by decide +kernel) (by decide +kernel)
set_option maxRecDepth 20000 in
theorem gX8_batch_X8_in : GoodIn wsX8_batch (va_wsS RX8 108 yX8_in wsX8_in) := goodIn_app (goodIn_of _ (by decide +kernel)) ggX8_batch_X8_in
set_option maxRecDepth 20000 in
theorem ggX8_batch_X8_is : GoodIn wsX8_batch wsX8_is := goodIn_r _ [21, 4, 22, 23, 24, 25, 26, 27, 28, 29, 30, 31, 32, 33, 34, 35, 36, 37, 38, 39, 40, 41, 42, 43, 44, 45, 46, 47, 48, 49, 50, 51, 52, 53, 54, 55, 56, 57, 58, 59, 60] (by decide +kernel) (by decide +kernel)
set_option maxRecDepth 20000 in
theorem gX8_batch_X8_is : GoodIn wsX8_batch (wsV RX8 122 RX8 yX8_is wsX8_is) := goodIn_app (goodIn_of _ (by decide +kernel)) ggX8_batch_X8_is
theorem dX8_batch_0 : decode cX8_batch 0 = .ok (.aload_n 0, 1) := by decide +kernel
theorem dX8_batch_1 : decode cX8_batch 1 = .ok (.iload_n 1, 1) := by decide +kernel
theorem dX8_batch_2 : decode cX8_batch 2 = .ok (.invokevirtual 115, 3) := by decide +kernel
theorem dX8_batch_5 : decode cX8_batch 5 = .ok (.ifCond .eq 22, 3) := by decide +kernel
theorem dX8_batch_8 : decode cX8_batch 8 = .ok (.iload_n 2, 1) := by decide +kernel
theorem dX8_batch_9 : decode cX8_batch 9 = .ok (.iconst (-1), 1) := by decide +kernel
theorem dX8_batch_10 : decode cX8_batch 10 = .ok (.iconst 5, 1) := by decide +kernel
theorem dX8_batch_11 : decode cX8_batch 11 = .ok (.invokestatic 108, 3) := by decide +kernel
theorem dX8_batch_14 : decode cX8_batch 14 = .ok (.ifCond .eq 13, 3) := by decide +kernel
theorem dX8_batch_17 : decode cX8_batch 17 = .ok (.iload_n 3, 1) := by decide +kernel
theorem dX8_batch_18 : decode cX8_batch 18 = .ok (.iconst 1, 1) := by decide +kernel
theorem dX8_batch_19 : decode cX8_batch 19 = .ok (.bipush 20, 2) := by decide +kernel
theorem dX8_batch_21 : decode cX8_batch 21 = .ok (.invokestatic 108, 3) := by decide +kernel
theorem dX8_batch_24 : decode cX8_batch 24 = .ok (.ifCond .ne 6, 3) := by decide +kernel
theorem dX8_batch_27 : decode cX8_batch 27 = .ok (.bipush (-2), 2) := by decide +kernel
theorem dX8_batch_29 : decode cX8_batch 29 = .ok (.ireturn, 1) := by decide +kernel
theorem dX8_batch_30 : decode cX8_batch 30 = .ok (.aload_n 0, 1) := by decide +kernel
theorem dX8_batch_31 : decode cX8_batch 31 = .ok (.getfield 133, 3) := by decide +kernel
theorem dX8_batch_34 : decode cX8_batch 34 = .ok (.bipush 12, 2) := by decide +kernel
theorem dX8_batch_36 : decode cX8_batch 36 = .ok (.if_icmp .ne 6, 3) := by decide +kernel
theorem dX8_batch_39 : decode cX8_batch 39 = .ok (.bipush (-3), 2) := by decide +kernel
theorem dX8_batch_41 : decode cX8_batch 41 = .ok (.ireturn, 1) := by decide +kernel
theorem dX8_batch_42 : decode cX8_batch 42 = .ok (.iconst 0, 1) := by decide +kernel
theorem dX8_batch_43 : decode cX8_batch 43 = .ok (.istore 4, 2) := by decide +kernel
theorem dX8_batch_45 : decode cX8_batch 45 = .ok (.iconst 0, 1) := by decide +kernel
theorem dX8_batch_46 : decode cX8_batch 46 = .ok (.istore 5, 2) := by decide +kernel
theorem dX8_batch_48 : decode cX8_batch 48 = .ok (.iload 5, 2) := by decide +kernel
theorem dX8_batch_50 : decode cX8_batch 50 = .ok (.aload_n 0, 1) := by decide +kernel
theorem dX8_batch_51 : decode cX8_batch 51 = .ok (.getfield 112, 3) := by decide +kernel
theorem dX8_batch_54 : decode cX8_batch 54 = .ok (.if_icmp .ge 66, 3) := by decide +kernel
theorem dX8_batch_57 : decode cX8_batch 57 = .ok (.iload 4, 2) := by decide +kernel
theorem dX8_batch_59 : decode cX8_batch 59 = .ok (.iload_n 3, 1) := by decide +kernel
theorem dX8_batch_60 : decode cX8_batch 60 = .ok (.if_icmp .ge 60, 3) := by decide +kernel
theorem dX8_batch_63 : decode cX8_batch 63 = .ok (.aload_n 0, 1) := by decide +kernel
theorem dX8_batch_64 : decode cX8_batch 64 = .ok (.iload 5, 2) := by decide +kernel
theorem dX8_batch_66 : decode cX8_batch 66 = .ok (.iload_n 2, 1) := by decide +kernel
theorem dX8_batch_67 : decode cX8_batch 67 = .ok (.iload_n 1, 1) := by decide +kernel
theorem dX8_batch_68 : decode cX8_batch 68 = .ok (.iconst 1, 1) := by decide +kernel
theorem dX8_batch_69 : decode cX8_batch 69 = .ok (.invokevirtual 122, 3) := by decide +kernel
theorem dX8_batch_72 : decode cX8_batch 72 = .ok (.ifCond .eq 42, 3) := by decide +kernel
theorem dX8_batch_75 : decode cX8_batch 75 = .ok (.aload_n 0, 1) := by decide +kernel
theorem dX8_batch_76 : decode cX8_batch 76 = .ok (.getfield 50, 3) := by decide +kernel
theorem dX8_batch_79 : decode cX8_batch 79 = .ok (.bipush 20, 2) := by decide +kernel
theorem dX8_batch_81 : decode cX8_batch 81 = .ok (.aload_n 0, 1) := by decide +kernel
theorem dX8_batch_82 : decode cX8_batch 82 = .ok (.getfield 133, 3) := by decide +kernel
theorem dX8_batch_85 : decode cX8_batch 85 = .ok (.imul, 1) := by decide +kernel
theorem dX8_batch_86 : decode cX8_batch 86 = .ok (.iload 4, 2) := by decide +kernel
theorem dX8_batch_88 : decode cX8_batch 88 = .ok (.iadd, 1) := by decide +kernel
theorem dX8_batch_89 : decode cX8_batch 89 = .ok (.iload 5, 2) := by decide +kernel
theorem dX8_batch_91 : decode cX8_batch 91 = .ok (.iastore, 1) := by decide +kernel
theorem dX8_batch_92 : decode cX8_batch 92 = .ok (.aload_n 0, 1) := by decide +kernel
theorem dX8_batch_93 : decode cX8_batch 93 = .ok (.getfield 35, 3) := by decide +kernel
theorem dX8_batch_96 : decode cX8_batch 96 = .ok (.iload 5, 2) := by decide +kernel
theorem dX8_batch_98 : decode cX8_batch 98 = .ok (.iconst 2, 1) := by decide +kernel
theorem dX8_batch_99 : decode cX8_batch 99 = .ok (.iastore, 1) := by decide +kernel
theorem dX8_batch_100 : decode cX8_batch 100 = .ok (.aload_n 0, 1) := by decide +kernel
theorem dX8_batch_101 : decode cX8_batch 101 = .ok (.getfield 41, 3) := by decide +kernel
theorem dX8_batch_104 : decode cX8_batch 104 = .ok (.iload 5, 2) := by decide +kernel
theorem dX8_batch_106 : decode cX8_batch 106 = .ok (.aload_n 0, 1) := by decide +kernel
theorem dX8_batch_107 : decode cX8_batch 107 = .ok (.getfield 133, 3) := by decide +kernel
theorem dX8_batch_110 : decode cX8_batch 110 = .ok (.iastore, 1) := by decide +kernel
theorem dX8_batch_111 : decode cX8_batch 111 = .ok (.iinc 4 1, 3) := by decide +kernel
theorem dX8_batch_114 : decode cX8_batch 114 = .ok (.iinc 5 1, 3) := by decide +kernel
theorem dX8_batch_117 : decode cX8_batch 117 = .ok (.goto (-69), 3) := by decide +kernel
theorem dX8_batch_120 : decode cX8_batch 120 = .ok (.iload 4, 2) := by decide +kernel
theorem dX8_batch_122 : decode cX8_batch 122 = .ok (.ifCond .ne 6, 3) := by decide +kernel
theorem dX8_batch_125 : decode cX8_batch 125 = .ok (.bipush (-4), 2) := by decide +kernel
theorem dX8_batch_127 : decode cX8_batch 127 = .ok (.ireturn, 1) := by decide +kernel
theorem dX8_batch_128 : decode cX8_batch 128 = .ok (.aload_n 0, 1) := by decide +kernel
theorem dX8_batch_129 : decode cX8_batch 129 = .ok (.getfield 44, 3) := by decide +kernel
theorem dX8_batch_132 : decode cX8_batch 132 = .ok (.aload_n 0, 1) := by decide +kernel
theorem dX8_batch_133 : decode cX8_batch 133 = .ok (.getfield 133, 3) := by decide +kernel
theorem dX8_batch_136 : decode cX8_batch 136 = .ok (.iload_n 1, 1) := by decide +kernel
theorem dX8_batch_137 : decode cX8_batch 137 = .ok (.iastore, 1) := by decide +kernel
theorem dX8_batch_138 : decode cX8_batch 138 = .ok (.aload_n 0, 1) := by decide +kernel
theorem dX8_batch_139 : decode cX8_batch 139 = .ok (.getfield 47, 3) := by decide +kernel
theorem dX8_batch_142 : decode cX8_batch 142 = .ok (.aload_n 0, 1) := by decide +kernel
theorem dX8_batch_143 : decode cX8_batch 143 = .ok (.getfield 133, 3) := by decide +kernel
theorem dX8_batch_146 : decode cX8_batch 146 = .ok (.iload 4, 2) := by decide +kernel
theorem dX8_batch_148 : decode cX8_batch 148 = .ok (.iastore, 1) := by decide +kernel
theorem dX8_batch_149 : decode cX8_batch 149 = .ok (.aload_n 0, 1) := by decide +kernel
theorem dX8_batch_150 : decode cX8_batch 150 = .ok (.getfield 53, 3) := by decide +kernel
theorem dX8_batch_153 : decode cX8_batch 153 = .ok (.aload_n 0, 1) := by decide +kernel
theorem dX8_batch_154 : decode cX8_batch 154 = .ok (.getfield 133, 3) := by decide +kernel
theorem dX8_batch_157 : decode cX8_batch 157 = .ok (.aload_n 0, 1) := by decide +kernel
theorem dX8_batch_158 : decode cX8_batch 158 = .ok (.getfield 133, 3) := by decide +kernel
theorem dX8_batch_161 : decode cX8_batch 161 = .ok (.iastore, 1) := by decide +kernel
theorem dX8_batch_162 : decode cX8_batch 162 = .ok (.aload_n 0, 1) := by decide +kernel
theorem dX8_batch_163 : decode cX8_batch 163 = .ok (.dup, 1) := by decide +kernel
theorem dX8_batch_164 : decode cX8_batch 164 = .ok (.getfield 133, 3) := by decide +kernel
theorem dX8_batch_167 : decode cX8_batch 167 = .ok (.iconst 1, 1) := by decide +kernel
theorem dX8_batch_168 : decode cX8_batch 168 = .ok (.iadd, 1) := by decide +kernel
theorem dX8_batch_169 : decode cX8_batch 169 = .ok (.putfield 133, 3) := by decide +kernel
theorem dX8_batch_172 : decode cX8_batch 172 = .ok (.iload 4, 2) := by decide +kernel
theorem dX8_batch_174 : decode cX8_batch 174 = .ok (.ireturn, 1) := by decide +kernel
set_option maxRecDepth 20000 in
theorem ggX8_at_X8_in : GoodIn wsX8_at wsX8_in := goodIn_r _ [6] (by decide +kernel) (by decide +kernel)
set_option maxRecDepth 20000 in
theorem gX8_at_X8_in : GoodIn wsX8_at (va_wsS RX8 108 yX8_in wsX8_in) := goodIn_app (goodIn_of _ (by decide +kernel)) ggX8_at_X8_in
theorem dX8_at_0 : decode cX8_at 0 = .ok (.iload_n 1, 1) := by decide +kernel
theorem dX8_at_1 : decode cX8_at 1 = .ok (.iconst 0, 1) := by decide +kernel
theorem dX8_at_2 : decode cX8_at 2 = .ok (.aload_n 0, 1) := by decide +kernel
theorem dX8_at_3 : decode cX8_at 3 = .ok (.getfield 133, 3) := by decide +kernel
theorem dX8_at_6 : decode cX8_at 6 = .ok (.iconst 1, 1) := by decide +kernel
theorem dX8_at_7 : decode cX8_at 7 = .ok (.isub, 1) := by decide +kernel
theorem dX8_at_8 : decode cX8_at 8 = .ok (.invokestatic 108, 3) := by decide +kernel
theorem dX8_at_11 : decode cX8_at 11 = .ok (.ifCond .eq 12, 3) := by decide +kernel
theorem dX8_at_14 : decode cX8_at 14 = .ok (.aload_n 0, 1) := by decide +kernel
theorem dX8_at_15 : decode cX8_at 15 = .ok (.getfield 53, 3) := by decide +kernel
theorem dX8_at_18 : decode cX8_at 18 = .ok (.iload_n 1, 1) := by decide +kernel
theorem dX8_at_19 : decode cX8_at 19 = .ok (.iaload, 1) := by decide +kernel
theorem dX8_at_20 : decode cX8_at 20 = .ok (.goto 4, 3) := by decide +kernel
theorem dX8_at_23 : decode cX8_at 23 = .ok (.iconst (-1), 1) := by decide +kernel
theorem dX8_at_24 : decode cX8_at 24 = .ok (.ireturn, 1) := by decide +kernel
theorem dX8_placeIn_0 : decode cX8_placeIn 0 = .ok (.iconst 0, 1) := by decide +kernel
theorem dX8_placeIn_1 : decode cX8_placeIn 1 = .ok (.istore_n 2, 1) := by decide +kernel
theorem dX8_placeIn_2 : decode cX8_placeIn 2 = .ok (.aload_n 0, 1) := by decide +kernel
theorem dX8_placeIn_3 : decode cX8_placeIn 3 = .ok (.getfield 53, 3) := by decide +kernel
theorem dX8_placeIn_6 : decode cX8_placeIn 6 = .ok (.iload_n 2, 1) := by decide +kernel
theorem dX8_placeIn_7 : decode cX8_placeIn 7 = .ok (.iaload, 1) := by decide +kernel
theorem dX8_placeIn_8 : decode cX8_placeIn 8 = .ok (.iload_n 1, 1) := by decide +kernel
theorem dX8_placeIn_9 : decode cX8_placeIn 9 = .ok (.if_icmp .eq 9, 3) := by decide +kernel
theorem dX8_placeIn_12 : decode cX8_placeIn 12 = .ok (.iinc 2 1, 3) := by decide +kernel
theorem dX8_placeIn_15 : decode cX8_placeIn 15 = .ok (.goto (-13), 3) := by decide +kernel
theorem dX8_placeIn_18 : decode cX8_placeIn 18 = .ok (.iload_n 2, 1) := by decide +kernel
theorem dX8_placeIn_19 : decode cX8_placeIn 19 = .ok (.ireturn, 1) := by decide +kernel
set_option maxRecDepth 20000 in
theorem ggX8_of_X8_in : GoodIn wsX8_of wsX8_in := goodIn_r _ [8] (by decide +kernel) (by decide +kernel)
set_option maxRecDepth 20000 in
theorem gX8_of_X8_in : GoodIn wsX8_of (va_wsS RX8 108 yX8_in wsX8_in) := goodIn_app (goodIn_of _ (by decide +kernel)) ggX8_of_X8_in
set_option maxRecDepth 20000 in
theorem ggX8_of_X8_placeIn : GoodIn wsX8_of wsX8_placeIn := goodIn_r _ [12, 13, 14, 15, 16, 17, 18, 19, 20, 21, 22, 23, 24, 25, 26, 27, 28, 29, 30, 31, 32, 33, 34, 35, 36, 37, 38, 39, 40, 41, 42, 43, 44, 45, 46, 47, 48, 49, 50] (by decide +kernel) (by decide +kernel)
set_option maxRecDepth 20000 in
theorem gX8_of_X8_placeIn : GoodIn wsX8_of (wsV RX8 136 RX8 yX8_placeIn wsX8_placeIn) := goodIn_app (goodIn_of _ (by decide +kernel)) ggX8_of_X8_placeIn
theorem dX8_of_0 : decode cX8_of 0 = .ok (.iload_n 1, 1) := by decide +kernel
theorem dX8_of_1 : decode cX8_of 1 = .ok (.iconst 0, 1) := by decide +kernel
theorem dX8_of_2 : decode cX8_of 2 = .ok (.aload_n 0, 1) := by decide +kernel
theorem dX8_of_3 : decode cX8_of 3 = .ok (.getfield 133, 3) := by decide +kernel
theorem dX8_of_6 : decode cX8_of 6 = .ok (.iconst 1, 1) := by decide +kernel
theorem dX8_of_7 : decode cX8_of 7 = .ok (.isub, 1) := by decide +kernel
theorem dX8_of_8 : decode cX8_of 8 = .ok (.invokestatic 108, 3) := by decide +kernel
theorem dX8_of_11 : decode cX8_of 11 = .ok (.ifCond .ne 6, 3) := by decide +kernel
theorem dX8_of_14 : decode cX8_of 14 = .ok (.bipush (-2), 2) := by decide +kernel
theorem dX8_of_16 : decode cX8_of 16 = .ok (.ireturn, 1) := by decide +kernel
theorem dX8_of_17 : decode cX8_of 17 = .ok (.iload_n 2, 1) := by decide +kernel
theorem dX8_of_18 : decode cX8_of 18 = .ok (.tableswitch 46 0 2 #[26, 33, 40], 26) := by decide +kernel
theorem dX8_of_44 : decode cX8_of 44 = .ok (.aload_n 0, 1) := by decide +kernel
theorem dX8_of_45 : decode cX8_of 45 = .ok (.getfield 44, 3) := by decide +kernel
theorem dX8_of_48 : decode cX8_of 48 = .ok (.iload_n 1, 1) := by decide +kernel
theorem dX8_of_49 : decode cX8_of 49 = .ok (.iaload, 1) := by decide +kernel
theorem dX8_of_50 : decode cX8_of 50 = .ok (.ireturn, 1) := by decide +kernel
theorem dX8_of_51 : decode cX8_of 51 = .ok (.aload_n 0, 1) := by decide +kernel
theorem dX8_of_52 : decode cX8_of 52 = .ok (.getfield 47, 3) := by decide +kernel
theorem dX8_of_55 : decode cX8_of 55 = .ok (.iload_n 1, 1) := by decide +kernel
theorem dX8_of_56 : decode cX8_of 56 = .ok (.iaload, 1) := by decide +kernel
theorem dX8_of_57 : decode cX8_of 57 = .ok (.ireturn, 1) := by decide +kernel
theorem dX8_of_58 : decode cX8_of 58 = .ok (.aload_n 0, 1) := by decide +kernel
theorem dX8_of_59 : decode cX8_of 59 = .ok (.iload_n 1, 1) := by decide +kernel
theorem dX8_of_60 : decode cX8_of 60 = .ok (.invokevirtual 136, 3) := by decide +kernel
theorem dX8_of_63 : decode cX8_of 63 = .ok (.ireturn, 1) := by decide +kernel
theorem dX8_of_64 : decode cX8_of 64 = .ok (.iload_n 2, 1) := by decide +kernel
theorem dX8_of_65 : decode cX8_of 65 = .ok (.bipush 10, 2) := by decide +kernel
theorem dX8_of_67 : decode cX8_of 67 = .ok (.bipush 9, 2) := by decide +kernel
theorem dX8_of_69 : decode cX8_of 69 = .ok (.aload_n 0, 1) := by decide +kernel
theorem dX8_of_70 : decode cX8_of 70 = .ok (.getfield 47, 3) := by decide +kernel
theorem dX8_of_73 : decode cX8_of 73 = .ok (.iload_n 1, 1) := by decide +kernel
theorem dX8_of_74 : decode cX8_of 74 = .ok (.iaload, 1) := by decide +kernel
theorem dX8_of_75 : decode cX8_of 75 = .ok (.iadd, 1) := by decide +kernel
theorem dX8_of_76 : decode cX8_of 76 = .ok (.invokestatic 108, 3) := by decide +kernel
theorem dX8_of_79 : decode cX8_of 79 = .ok (.ifCond .eq 20, 3) := by decide +kernel
theorem dX8_of_82 : decode cX8_of 82 = .ok (.aload_n 0, 1) := by decide +kernel
theorem dX8_of_83 : decode cX8_of 83 = .ok (.getfield 50, 3) := by decide +kernel
theorem dX8_of_86 : decode cX8_of 86 = .ok (.bipush 20, 2) := by decide +kernel
theorem dX8_of_88 : decode cX8_of 88 = .ok (.iload_n 1, 1) := by decide +kernel
theorem dX8_of_89 : decode cX8_of 89 = .ok (.imul, 1) := by decide +kernel
theorem dX8_of_90 : decode cX8_of 90 = .ok (.iload_n 2, 1) := by decide +kernel
theorem dX8_of_91 : decode cX8_of 91 = .ok (.iadd, 1) := by decide +kernel
theorem dX8_of_92 : decode cX8_of 92 = .ok (.bipush 10, 2) := by decide +kernel
theorem dX8_of_94 : decode cX8_of 94 = .ok (.isub, 1) := by decide +kernel
theorem dX8_of_95 : decode cX8_of 95 = .ok (.iaload, 1) := by decide +kernel
theorem dX8_of_96 : decode cX8_of 96 = .ok (.goto 5, 3) := by decide +kernel
theorem dX8_of_99 : decode cX8_of 99 = .ok (.bipush (-2), 2) := by decide +kernel
theorem dX8_of_101 : decode cX8_of 101 = .ok (.ireturn, 1) := by decide +kernel
set_option maxRecDepth 20000 in
theorem ggX8_swap_X8_in : GoodIn wsX8_swap wsX8_in := goodIn_r _ [6] (by decide +kernel) (by decide +kernel)
set_option maxRecDepth 20000 in
theorem gX8_swap_X8_in : GoodIn wsX8_swap (va_wsS RX8 108 yX8_in wsX8_in) := goodIn_app (goodIn_of _ (by decide +kernel)) ggX8_swap_X8_in
theorem dX8_swap_0 : decode cX8_swap 0 = .ok (.iload_n 1, 1) := by decide +kernel
theorem dX8_swap_1 : decode cX8_swap 1 = .ok (.iconst 0, 1) := by decide +kernel
theorem dX8_swap_2 : decode cX8_swap 2 = .ok (.aload_n 0, 1) := by decide +kernel
theorem dX8_swap_3 : decode cX8_swap 3 = .ok (.getfield 133, 3) := by decide +kernel
theorem dX8_swap_6 : decode cX8_swap 6 = .ok (.iconst 1, 1) := by decide +kernel
theorem dX8_swap_7 : decode cX8_swap 7 = .ok (.isub, 1) := by decide +kernel
theorem dX8_swap_8 : decode cX8_swap 8 = .ok (.invokestatic 108, 3) := by decide +kernel
theorem dX8_swap_11 : decode cX8_swap 11 = .ok (.ifCond .eq 17, 3) := by decide +kernel
theorem dX8_swap_14 : decode cX8_swap 14 = .ok (.iload_n 2, 1) := by decide +kernel
theorem dX8_swap_15 : decode cX8_swap 15 = .ok (.iconst 0, 1) := by decide +kernel
theorem dX8_swap_16 : decode cX8_swap 16 = .ok (.aload_n 0, 1) := by decide +kernel
theorem dX8_swap_17 : decode cX8_swap 17 = .ok (.getfield 133, 3) := by decide +kernel
theorem dX8_swap_20 : decode cX8_swap 20 = .ok (.iconst 1, 1) := by decide +kernel
theorem dX8_swap_21 : decode cX8_swap 21 = .ok (.isub, 1) := by decide +kernel
theorem dX8_swap_22 : decode cX8_swap 22 = .ok (.invokestatic 108, 3) := by decide +kernel
theorem dX8_swap_25 : decode cX8_swap 25 = .ok (.ifCond .ne 6, 3) := by decide +kernel
theorem dX8_swap_28 : decode cX8_swap 28 = .ok (.bipush (-2), 2) := by decide +kernel
theorem dX8_swap_30 : decode cX8_swap 30 = .ok (.ireturn, 1) := by decide +kernel
theorem dX8_swap_31 : decode cX8_swap 31 = .ok (.aload_n 0, 1) := by decide +kernel
theorem dX8_swap_32 : decode cX8_swap 32 = .ok (.getfield 53, 3) := by decide +kernel
theorem dX8_swap_35 : decode cX8_swap 35 = .ok (.iload_n 1, 1) := by decide +kernel
theorem dX8_swap_36 : decode cX8_swap 36 = .ok (.iaload, 1) := by decide +kernel
theorem dX8_swap_37 : decode cX8_swap 37 = .ok (.istore_n 3, 1) := by decide +kernel
theorem dX8_swap_38 : decode cX8_swap 38 = .ok (.aload_n 0, 1) := by decide +kernel
theorem dX8_swap_39 : decode cX8_swap 39 = .ok (.getfield 53, 3) := by decide +kernel
theorem dX8_swap_42 : decode cX8_swap 42 = .ok (.iload_n 1, 1) := by decide +kernel
theorem dX8_swap_43 : decode cX8_swap 43 = .ok (.aload_n 0, 1) := by decide +kernel
theorem dX8_swap_44 : decode cX8_swap 44 = .ok (.getfield 53, 3) := by decide +kernel
theorem dX8_swap_47 : decode cX8_swap 47 = .ok (.iload_n 2, 1) := by decide +kernel
theorem dX8_swap_48 : decode cX8_swap 48 = .ok (.iaload, 1) := by decide +kernel
theorem dX8_swap_49 : decode cX8_swap 49 = .ok (.iastore, 1) := by decide +kernel
theorem dX8_swap_50 : decode cX8_swap 50 = .ok (.aload_n 0, 1) := by decide +kernel
theorem dX8_swap_51 : decode cX8_swap 51 = .ok (.getfield 53, 3) := by decide +kernel
theorem dX8_swap_54 : decode cX8_swap 54 = .ok (.iload_n 2, 1) := by decide +kernel
theorem dX8_swap_55 : decode cX8_swap 55 = .ok (.iload_n 3, 1) := by decide +kernel
theorem dX8_swap_56 : decode cX8_swap 56 = .ok (.iastore, 1) := by decide +kernel
theorem dX8_swap_57 : decode cX8_swap 57 = .ok (.iconst 1, 1) := by decide +kernel
theorem dX8_swap_58 : decode cX8_swap 58 = .ok (.ireturn, 1) := by decide +kernel
theorem dX8_undo_0 : decode cX8_undo 0 = .ok (.aload_n 0, 1) := by decide +kernel
theorem dX8_undo_1 : decode cX8_undo 1 = .ok (.getfield 133, 3) := by decide +kernel
theorem dX8_undo_4 : decode cX8_undo 4 = .ok (.ifCond .ne 6, 3) := by decide +kernel
theorem dX8_undo_7 : decode cX8_undo 7 = .ok (.bipush (-4), 2) := by decide +kernel
theorem dX8_undo_9 : decode cX8_undo 9 = .ok (.ireturn, 1) := by decide +kernel
theorem dX8_undo_10 : decode cX8_undo 10 = .ok (.aload_n 0, 1) := by decide +kernel
theorem dX8_undo_11 : decode cX8_undo 11 = .ok (.getfield 53, 3) := by decide +kernel
theorem dX8_undo_14 : decode cX8_undo 14 = .ok (.aload_n 0, 1) := by decide +kernel
theorem dX8_undo_15 : decode cX8_undo 15 = .ok (.getfield 133, 3) := by decide +kernel
theorem dX8_undo_18 : decode cX8_undo 18 = .ok (.iconst 1, 1) := by decide +kernel
theorem dX8_undo_19 : decode cX8_undo 19 = .ok (.isub, 1) := by decide +kernel
theorem dX8_undo_20 : decode cX8_undo 20 = .ok (.iaload, 1) := by decide +kernel
theorem dX8_undo_21 : decode cX8_undo 21 = .ok (.istore_n 1, 1) := by decide +kernel
theorem dX8_undo_22 : decode cX8_undo 22 = .ok (.iconst 0, 1) := by decide +kernel
theorem dX8_undo_23 : decode cX8_undo 23 = .ok (.istore_n 2, 1) := by decide +kernel
theorem dX8_undo_24 : decode cX8_undo 24 = .ok (.iload_n 2, 1) := by decide +kernel
theorem dX8_undo_25 : decode cX8_undo 25 = .ok (.aload_n 0, 1) := by decide +kernel
theorem dX8_undo_26 : decode cX8_undo 26 = .ok (.getfield 47, 3) := by decide +kernel
theorem dX8_undo_29 : decode cX8_undo 29 = .ok (.iload_n 1, 1) := by decide +kernel
theorem dX8_undo_30 : decode cX8_undo 30 = .ok (.iaload, 1) := by decide +kernel
theorem dX8_undo_31 : decode cX8_undo 31 = .ok (.if_icmp .ge 35, 3) := by decide +kernel
theorem dX8_undo_34 : decode cX8_undo 34 = .ok (.aload_n 0, 1) := by decide +kernel
theorem dX8_undo_35 : decode cX8_undo 35 = .ok (.getfield 50, 3) := by decide +kernel
theorem dX8_undo_38 : decode cX8_undo 38 = .ok (.bipush 20, 2) := by decide +kernel
theorem dX8_undo_40 : decode cX8_undo 40 = .ok (.iload_n 1, 1) := by decide +kernel
theorem dX8_undo_41 : decode cX8_undo 41 = .ok (.imul, 1) := by decide +kernel
theorem dX8_undo_42 : decode cX8_undo 42 = .ok (.iload_n 2, 1) := by decide +kernel
theorem dX8_undo_43 : decode cX8_undo 43 = .ok (.iadd, 1) := by decide +kernel
theorem dX8_undo_44 : decode cX8_undo 44 = .ok (.iaload, 1) := by decide +kernel
theorem dX8_undo_45 : decode cX8_undo 45 = .ok (.istore_n 3, 1) := by decide +kernel
theorem dX8_undo_46 : decode cX8_undo 46 = .ok (.aload_n 0, 1) := by decide +kernel
theorem dX8_undo_47 : decode cX8_undo 47 = .ok (.getfield 35, 3) := by decide +kernel
theorem dX8_undo_50 : decode cX8_undo 50 = .ok (.iload_n 3, 1) := by decide +kernel
theorem dX8_undo_51 : decode cX8_undo 51 = .ok (.iconst 1, 1) := by decide +kernel
theorem dX8_undo_52 : decode cX8_undo 52 = .ok (.iastore, 1) := by decide +kernel
theorem dX8_undo_53 : decode cX8_undo 53 = .ok (.aload_n 0, 1) := by decide +kernel
theorem dX8_undo_54 : decode cX8_undo 54 = .ok (.getfield 41, 3) := by decide +kernel
theorem dX8_undo_57 : decode cX8_undo 57 = .ok (.iload_n 3, 1) := by decide +kernel
theorem dX8_undo_58 : decode cX8_undo 58 = .ok (.iconst (-1), 1) := by decide +kernel
theorem dX8_undo_59 : decode cX8_undo 59 = .ok (.iastore, 1) := by decide +kernel
theorem dX8_undo_60 : decode cX8_undo 60 = .ok (.iinc 2 1, 3) := by decide +kernel
theorem dX8_undo_63 : decode cX8_undo 63 = .ok (.goto (-39), 3) := by decide +kernel
theorem dX8_undo_66 : decode cX8_undo 66 = .ok (.aload_n 0, 1) := by decide +kernel
theorem dX8_undo_67 : decode cX8_undo 67 = .ok (.dup, 1) := by decide +kernel
theorem dX8_undo_68 : decode cX8_undo 68 = .ok (.getfield 133, 3) := by decide +kernel
theorem dX8_undo_71 : decode cX8_undo 71 = .ok (.iconst 1, 1) := by decide +kernel
theorem dX8_undo_72 : decode cX8_undo 72 = .ok (.isub, 1) := by decide +kernel
theorem dX8_undo_73 : decode cX8_undo 73 = .ok (.putfield 133, 3) := by decide +kernel
theorem dX8_undo_76 : decode cX8_undo 76 = .ok (.iconst 0, 1) := by decide +kernel
theorem dX8_undo_77 : decode cX8_undo 77 = .ok (.istore_n 2, 1) := by decide +kernel
theorem dX8_undo_78 : decode cX8_undo 78 = .ok (.iload_n 2, 1) := by decide +kernel
theorem dX8_undo_79 : decode cX8_undo 79 = .ok (.aload_n 0, 1) := by decide +kernel
theorem dX8_undo_80 : decode cX8_undo 80 = .ok (.getfield 133, 3) := by decide +kernel
theorem dX8_undo_83 : decode cX8_undo 83 = .ok (.if_icmp .ge 33, 3) := by decide +kernel
theorem dX8_undo_86 : decode cX8_undo 86 = .ok (.aload_n 0, 1) := by decide +kernel
theorem dX8_undo_87 : decode cX8_undo 87 = .ok (.getfield 53, 3) := by decide +kernel
theorem dX8_undo_90 : decode cX8_undo 90 = .ok (.iload_n 2, 1) := by decide +kernel
theorem dX8_undo_91 : decode cX8_undo 91 = .ok (.dup2, 1) := by decide +kernel
theorem dX8_undo_92 : decode cX8_undo 92 = .ok (.iaload, 1) := by decide +kernel
theorem dX8_undo_93 : decode cX8_undo 93 = .ok (.aload_n 0, 1) := by decide +kernel
theorem dX8_undo_94 : decode cX8_undo 94 = .ok (.getfield 53, 3) := by decide +kernel
theorem dX8_undo_97 : decode cX8_undo 97 = .ok (.iload_n 2, 1) := by decide +kernel
theorem dX8_undo_98 : decode cX8_undo 98 = .ok (.iaload, 1) := by decide +kernel
theorem dX8_undo_99 : decode cX8_undo 99 = .ok (.iload_n 1, 1) := by decide +kernel
theorem dX8_undo_100 : decode cX8_undo 100 = .ok (.if_icmp .le 7, 3) := by decide +kernel
theorem dX8_undo_103 : decode cX8_undo 103 = .ok (.iconst 1, 1) := by decide +kernel
theorem dX8_undo_104 : decode cX8_undo 104 = .ok (.goto 4, 3) := by decide +kernel
theorem dX8_undo_107 : decode cX8_undo 107 = .ok (.iconst 0, 1) := by decide +kernel
theorem dX8_undo_108 : decode cX8_undo 108 = .ok (.isub, 1) := by decide +kernel
theorem dX8_undo_109 : decode cX8_undo 109 = .ok (.iastore, 1) := by decide +kernel
theorem dX8_undo_110 : decode cX8_undo 110 = .ok (.iinc 2 1, 3) := by decide +kernel
theorem dX8_undo_113 : decode cX8_undo 113 = .ok (.goto (-35), 3) := by decide +kernel
theorem dX8_undo_116 : decode cX8_undo 116 = .ok (.iload_n 1, 1) := by decide +kernel
theorem dX8_undo_117 : decode cX8_undo 117 = .ok (.istore_n 2, 1) := by decide +kernel
theorem dX8_undo_118 : decode cX8_undo 118 = .ok (.iload_n 2, 1) := by decide +kernel
theorem dX8_undo_119 : decode cX8_undo 119 = .ok (.aload_n 0, 1) := by decide +kernel
theorem dX8_undo_120 : decode cX8_undo 120 = .ok (.getfield 133, 3) := by decide +kernel
theorem dX8_undo_123 : decode cX8_undo 123 = .ok (.if_icmp .ge 97, 3) := by decide +kernel
theorem dX8_undo_126 : decode cX8_undo 126 = .ok (.aload_n 0, 1) := by decide +kernel
theorem dX8_undo_127 : decode cX8_undo 127 = .ok (.getfield 44, 3) := by decide +kernel
theorem dX8_undo_130 : decode cX8_undo 130 = .ok (.iload_n 2, 1) := by decide +kernel
theorem dX8_undo_131 : decode cX8_undo 131 = .ok (.aload_n 0, 1) := by decide +kernel
theorem dX8_undo_132 : decode cX8_undo 132 = .ok (.getfield 44, 3) := by decide +kernel
theorem dX8_undo_135 : decode cX8_undo 135 = .ok (.iload_n 2, 1) := by decide +kernel
theorem dX8_undo_136 : decode cX8_undo 136 = .ok (.iconst 1, 1) := by decide +kernel
theorem dX8_undo_137 : decode cX8_undo 137 = .ok (.iadd, 1) := by decide +kernel
theorem dX8_undo_138 : decode cX8_undo 138 = .ok (.iaload, 1) := by decide +kernel
theorem dX8_undo_139 : decode cX8_undo 139 = .ok (.iastore, 1) := by decide +kernel
theorem dX8_undo_140 : decode cX8_undo 140 = .ok (.aload_n 0, 1) := by decide +kernel
theorem dX8_undo_141 : decode cX8_undo 141 = .ok (.getfield 47, 3) := by decide +kernel
theorem dX8_undo_144 : decode cX8_undo 144 = .ok (.iload_n 2, 1) := by decide +kernel
theorem dX8_undo_145 : decode cX8_undo 145 = .ok (.aload_n 0, 1) := by decide +kernel
theorem dX8_undo_146 : decode cX8_undo 146 = .ok (.getfield 47, 3) := by decide +kernel
theorem dX8_undo_149 : decode cX8_undo 149 = .ok (.iload_n 2, 1) := by decide +kernel
theorem dX8_undo_150 : decode cX8_undo 150 = .ok (.iconst 1, 1) := by decide +kernel
theorem dX8_undo_151 : decode cX8_undo 151 = .ok (.iadd, 1) := by decide +kernel
theorem dX8_undo_152 : decode cX8_undo 152 = .ok (.iaload, 1) := by decide +kernel
theorem dX8_undo_153 : decode cX8_undo 153 = .ok (.iastore, 1) := by decide +kernel
theorem dX8_undo_154 : decode cX8_undo 154 = .ok (.iconst 0, 1) := by decide +kernel
theorem dX8_undo_155 : decode cX8_undo 155 = .ok (.istore_n 3, 1) := by decide +kernel
theorem dX8_undo_156 : decode cX8_undo 156 = .ok (.iload_n 3, 1) := by decide +kernel
theorem dX8_undo_157 : decode cX8_undo 157 = .ok (.aload_n 0, 1) := by decide +kernel
theorem dX8_undo_158 : decode cX8_undo 158 = .ok (.getfield 47, 3) := by decide +kernel
theorem dX8_undo_161 : decode cX8_undo 161 = .ok (.iload_n 2, 1) := by decide +kernel
theorem dX8_undo_162 : decode cX8_undo 162 = .ok (.iaload, 1) := by decide +kernel
theorem dX8_undo_163 : decode cX8_undo 163 = .ok (.if_icmp .ge 51, 3) := by decide +kernel
theorem dX8_undo_166 : decode cX8_undo 166 = .ok (.aload_n 0, 1) := by decide +kernel
theorem dX8_undo_167 : decode cX8_undo 167 = .ok (.getfield 50, 3) := by decide +kernel
theorem dX8_undo_170 : decode cX8_undo 170 = .ok (.bipush 20, 2) := by decide +kernel
theorem dX8_undo_172 : decode cX8_undo 172 = .ok (.iload_n 2, 1) := by decide +kernel
theorem dX8_undo_173 : decode cX8_undo 173 = .ok (.imul, 1) := by decide +kernel
theorem dX8_undo_174 : decode cX8_undo 174 = .ok (.iload_n 3, 1) := by decide +kernel
theorem dX8_undo_175 : decode cX8_undo 175 = .ok (.iadd, 1) := by decide +kernel
theorem dX8_undo_176 : decode cX8_undo 176 = .ok (.aload_n 0, 1) := by decide +kernel
theorem dX8_undo_177 : decode cX8_undo 177 = .ok (.getfield 50, 3) := by decide +kernel
theorem dX8_undo_180 : decode cX8_undo 180 = .ok (.bipush 20, 2) := by decide +kernel
theorem dX8_undo_182 : decode cX8_undo 182 = .ok (.iload_n 2, 1) := by decide +kernel
theorem dX8_undo_183 : decode cX8_undo 183 = .ok (.imul, 1) := by decide +kernel
theorem dX8_undo_184 : decode cX8_undo 184 = .ok (.bipush 20, 2) := by decide +kernel
theorem dX8_undo_186 : decode cX8_undo 186 = .ok (.iadd, 1) := by decide +kernel
theorem dX8_undo_187 : decode cX8_undo 187 = .ok (.iload_n 3, 1) := by decide +kernel
theorem dX8_undo_188 : decode cX8_undo 188 = .ok (.iadd, 1) := by decide +kernel
theorem dX8_undo_189 : decode cX8_undo 189 = .ok (.iaload, 1) := by decide +kernel
theorem dX8_undo_190 : decode cX8_undo 190 = .ok (.iastore, 1) := by decide +kernel
theorem dX8_undo_191 : decode cX8_undo 191 = .ok (.aload_n 0, 1) := by decide +kernel
theorem dX8_undo_192 : decode cX8_undo 192 = .ok (.getfield 41, 3) := by decide +kernel
theorem dX8_undo_195 : decode cX8_undo 195 = .ok (.aload_n 0, 1) := by decide +kernel
theorem dX8_undo_196 : decode cX8_undo 196 = .ok (.getfield 50, 3) := by decide +kernel
theorem dX8_undo_199 : decode cX8_undo 199 = .ok (.bipush 20, 2) := by decide +kernel
theorem dX8_undo_201 : decode cX8_undo 201 = .ok (.iload_n 2, 1) := by decide +kernel
theorem dX8_undo_202 : decode cX8_undo 202 = .ok (.imul, 1) := by decide +kernel
theorem dX8_undo_203 : decode cX8_undo 203 = .ok (.iload_n 3, 1) := by decide +kernel
theorem dX8_undo_204 : decode cX8_undo 204 = .ok (.iadd, 1) := by decide +kernel
theorem dX8_undo_205 : decode cX8_undo 205 = .ok (.iaload, 1) := by decide +kernel
theorem dX8_undo_206 : decode cX8_undo 206 = .ok (.iload_n 2, 1) := by decide +kernel
theorem dX8_undo_207 : decode cX8_undo 207 = .ok (.iastore, 1) := by decide +kernel
theorem dX8_undo_208 : decode cX8_undo 208 = .ok (.iinc 3 1, 3) := by decide +kernel
theorem dX8_undo_211 : decode cX8_undo 211 = .ok (.goto (-55), 3) := by decide +kernel
theorem dX8_undo_214 : decode cX8_undo 214 = .ok (.iinc 2 1, 3) := by decide +kernel
theorem dX8_undo_217 : decode cX8_undo 217 = .ok (.goto (-99), 3) := by decide +kernel
theorem dX8_undo_220 : decode cX8_undo 220 = .ok (.aload_n 0, 1) := by decide +kernel
theorem dX8_undo_221 : decode cX8_undo 221 = .ok (.getfield 133, 3) := by decide +kernel
theorem dX8_undo_224 : decode cX8_undo 224 = .ok (.ireturn, 1) := by decide +kernel
theorem dX8_emptiesOf_0 : decode cX8_emptiesOf 0 = .ok (.aload_n 0, 1) := by decide +kernel
theorem dX8_emptiesOf_1 : decode cX8_emptiesOf 1 = .ok (.getfield 13, 3) := by decide +kernel
theorem dX8_emptiesOf_4 : decode cX8_emptiesOf 4 = .ok (.iload_n 2, 1) := by decide +kernel
theorem dX8_emptiesOf_5 : decode cX8_emptiesOf 5 = .ok (.iaload, 1) := by decide +kernel
theorem dX8_emptiesOf_6 : decode cX8_emptiesOf 6 = .ok (.aload_n 0, 1) := by decide +kernel
theorem dX8_emptiesOf_7 : decode cX8_emptiesOf 7 = .ok (.getfield 13, 3) := by decide +kernel
theorem dX8_emptiesOf_10 : decode cX8_emptiesOf 10 = .ok (.iload_n 1, 1) := by decide +kernel
theorem dX8_emptiesOf_11 : decode cX8_emptiesOf 11 = .ok (.iaload, 1) := by decide +kernel
theorem dX8_emptiesOf_12 : decode cX8_emptiesOf 12 = .ok (.if_icmp .ge 19, 3) := by decide +kernel
theorem dX8_emptiesOf_15 : decode cX8_emptiesOf 15 = .ok (.aload_n 0, 1) := by decide +kernel
theorem dX8_emptiesOf_16 : decode cX8_emptiesOf 16 = .ok (.getfield 13, 3) := by decide +kernel
theorem dX8_emptiesOf_19 : decode cX8_emptiesOf 19 = .ok (.iload_n 1, 1) := by decide +kernel
theorem dX8_emptiesOf_20 : decode cX8_emptiesOf 20 = .ok (.iaload, 1) := by decide +kernel
theorem dX8_emptiesOf_21 : decode cX8_emptiesOf 21 = .ok (.aload_n 0, 1) := by decide +kernel
theorem dX8_emptiesOf_22 : decode cX8_emptiesOf 22 = .ok (.getfield 13, 3) := by decide +kernel
theorem dX8_emptiesOf_25 : decode cX8_emptiesOf 25 = .ok (.iload_n 2, 1) := by decide +kernel
theorem dX8_emptiesOf_26 : decode cX8_emptiesOf 26 = .ok (.iaload, 1) := by decide +kernel
theorem dX8_emptiesOf_27 : decode cX8_emptiesOf 27 = .ok (.isub, 1) := by decide +kernel
theorem dX8_emptiesOf_28 : decode cX8_emptiesOf 28 = .ok (.goto 4, 3) := by decide +kernel
theorem dX8_emptiesOf_31 : decode cX8_emptiesOf 31 = .ok (.iconst 0, 1) := by decide +kernel
theorem dX8_emptiesOf_32 : decode cX8_emptiesOf 32 = .ok (.istore_n 3, 1) := by decide +kernel
theorem dX8_emptiesOf_33 : decode cX8_emptiesOf 33 = .ok (.aload_n 0, 1) := by decide +kernel
theorem dX8_emptiesOf_34 : decode cX8_emptiesOf 34 = .ok (.getfield 7, 3) := by decide +kernel
theorem dX8_emptiesOf_37 : decode cX8_emptiesOf 37 = .ok (.iload_n 1, 1) := by decide +kernel
theorem dX8_emptiesOf_38 : decode cX8_emptiesOf 38 = .ok (.iaload, 1) := by decide +kernel
theorem dX8_emptiesOf_39 : decode cX8_emptiesOf 39 = .ok (.aload_n 0, 1) := by decide +kernel
theorem dX8_emptiesOf_40 : decode cX8_emptiesOf 40 = .ok (.getfield 7, 3) := by decide +kernel
theorem dX8_emptiesOf_43 : decode cX8_emptiesOf 43 = .ok (.iload_n 2, 1) := by decide +kernel
theorem dX8_emptiesOf_44 : decode cX8_emptiesOf 44 = .ok (.iaload, 1) := by decide +kernel
theorem dX8_emptiesOf_45 : decode cX8_emptiesOf 45 = .ok (.isub, 1) := by decide +kernel
theorem dX8_emptiesOf_46 : decode cX8_emptiesOf 46 = .ok (.istore 4, 2) := by decide +kernel
theorem dX8_emptiesOf_48 : decode cX8_emptiesOf 48 = .ok (.iload_n 3, 1) := by decide +kernel
theorem dX8_emptiesOf_49 : decode cX8_emptiesOf 49 = .ok (.iload 4, 2) := by decide +kernel
theorem dX8_emptiesOf_51 : decode cX8_emptiesOf 51 = .ok (.iconst 1, 1) := by decide +kernel
theorem dX8_emptiesOf_52 : decode cX8_emptiesOf 52 = .ok (.if_icmp .gt 9, 3) := by decide +kernel
theorem dX8_emptiesOf_55 : decode cX8_emptiesOf 55 = .ok (.iload 4, 2) := by decide +kernel
theorem dX8_emptiesOf_57 : decode cX8_emptiesOf 57 = .ok (.iconst (-1), 1) := by decide +kernel
theorem dX8_emptiesOf_58 : decode cX8_emptiesOf 58 = .ok (.if_icmp .ge 7, 3) := by decide +kernel
theorem dX8_emptiesOf_61 : decode cX8_emptiesOf 61 = .ok (.iconst 1, 1) := by decide +kernel
theorem dX8_emptiesOf_62 : decode cX8_emptiesOf 62 = .ok (.goto 4, 3) := by decide +kernel
theorem dX8_emptiesOf_65 : decode cX8_emptiesOf 65 = .ok (.iconst 0, 1) := by decide +kernel
theorem dX8_emptiesOf_66 : decode cX8_emptiesOf 66 = .ok (.iadd, 1) := by decide +kernel
theorem dX8_emptiesOf_67 : decode cX8_emptiesOf 67 = .ok (.istore_n 3, 1) := by decide +kernel
theorem dX8_emptiesOf_68 : decode cX8_emptiesOf 68 = .ok (.iload_n 3, 1) := by decide +kernel
theorem dX8_emptiesOf_69 : decode cX8_emptiesOf 69 = .ok (.aload_n 0, 1) := by decide +kernel
theorem dX8_emptiesOf_70 : decode cX8_emptiesOf 70 = .ok (.getfield 16, 3) := by decide +kernel
theorem dX8_emptiesOf_73 : decode cX8_emptiesOf 73 = .ok (.iload_n 1, 1) := by decide +kernel
theorem dX8_emptiesOf_74 : decode cX8_emptiesOf 74 = .ok (.baload, 1) := by decide +kernel
theorem dX8_emptiesOf_75 : decode cX8_emptiesOf 75 = .ok (.ifCond .eq 16, 3) := by decide +kernel
theorem dX8_emptiesOf_78 : decode cX8_emptiesOf 78 = .ok (.aload_n 0, 1) := by decide +kernel
theorem dX8_emptiesOf_79 : decode cX8_emptiesOf 79 = .ok (.getfield 16, 3) := by decide +kernel
theorem dX8_emptiesOf_82 : decode cX8_emptiesOf 82 = .ok (.iload_n 2, 1) := by decide +kernel
theorem dX8_emptiesOf_83 : decode cX8_emptiesOf 83 = .ok (.baload, 1) := by decide +kernel
theorem dX8_emptiesOf_84 : decode cX8_emptiesOf 84 = .ok (.ifCond .ne 7, 3) := by decide +kernel
theorem dX8_emptiesOf_87 : decode cX8_emptiesOf 87 = .ok (.iconst 2, 1) := by decide +kernel
theorem dX8_emptiesOf_88 : decode cX8_emptiesOf 88 = .ok (.goto 4, 3) := by decide +kernel
theorem dX8_emptiesOf_91 : decode cX8_emptiesOf 91 = .ok (.iconst 0, 1) := by decide +kernel
theorem dX8_emptiesOf_92 : decode cX8_emptiesOf 92 = .ok (.iadd, 1) := by decide +kernel
theorem dX8_emptiesOf_93 : decode cX8_emptiesOf 93 = .ok (.ireturn, 1) := by decide +kernel
set_option maxRecDepth 20000 in
theorem ggX8_between_X8_isKind : GoodIn wsX8_between wsX8_isKind := goodIn_r _ [5, 6, 7, 8, 4, 9, 17, 18, 19, 20, 21, 22, 23, 24, 25, 26, 27, 28, 29, 30, 31, 32, 33, 34, 35, 36, 37, 38, 39, 40, 41, 42, 43, 44, 45, 46, 47, 48, 49, 50, 51, 52, 53] (by decide +kernel) (by decide +kernel)
set_option maxRecDepth 20000 in
theorem gX8_between_X8_isKind : GoodIn wsX8_between (wsV RX8 115 RX8 yX8_isKind wsX8_isKind) := goodIn_app (goodIn_of _ (by decide +kernel)) ggX8_between_X8_isKind
set_option maxRecDepth 20000 in
theorem ggX8_between_X8_emptiesOf : GoodIn wsX8_between wsX8_emptiesOf := goodIn_r _ [13, 14, 15, 16, 17, 18, 19, 20, 21, 22, 23, 24, 25, 26, 27, 28, 29, 30, 31, 32, 33, 34, 35, 36, 37, 38, 39, 40, 41, 42, 43, 44, 45, 46, 47, 48, 49, 50, 51, 52, 53] (by decide +kernel) (by decide +kernel)
set_option maxRecDepth 20000 in
theorem gX8_between_X8_emptiesOf : GoodIn wsX8_between (wsV RX8 139 RX8 yX8_emptiesOf wsX8_emptiesOf) := goodIn_app (goodIn_of _ (by decide +kernel)) ggX8_between_X8_emptiesOf
theorem dX8_between_0 : decode cX8_between 0 = .ok (.aload_n 0, 1) := by decide +kernel
theorem dX8_between_1 : decode cX8_between 1 = .ok (.iload_n 1, 1) := by decide +kernel
theorem dX8_between_2 : decode cX8_between 2 = .ok (.invokevirtual 115, 3) := by decide +kernel
theorem dX8_between_5 : decode cX8_between 5 = .ok (.ifCond .eq 20, 3) := by decide +kernel
theorem dX8_between_8 : decode cX8_between 8 = .ok (.aload_n 0, 1) := by decide +kernel
theorem dX8_between_9 : decode cX8_between 9 = .ok (.iload_n 2, 1) := by decide +kernel
theorem dX8_between_10 : decode cX8_between 10 = .ok (.invokevirtual 115, 3) := by decide +kernel
theorem dX8_between_13 : decode cX8_between 13 = .ok (.ifCond .eq 12, 3) := by decide +kernel
theorem dX8_between_16 : decode cX8_between 16 = .ok (.aload_n 0, 1) := by decide +kernel
theorem dX8_between_17 : decode cX8_between 17 = .ok (.iload_n 1, 1) := by decide +kernel
theorem dX8_between_18 : decode cX8_between 18 = .ok (.iload_n 2, 1) := by decide +kernel
theorem dX8_between_19 : decode cX8_between 19 = .ok (.invokevirtual 139, 3) := by decide +kernel
theorem dX8_between_22 : decode cX8_between 22 = .ok (.goto 5, 3) := by decide +kernel
theorem dX8_between_25 : decode cX8_between 25 = .ok (.bipush (-2), 2) := by decide +kernel
theorem dX8_between_27 : decode cX8_between 27 = .ok (.ireturn, 1) := by decide +kernel
set_option maxRecDepth 20000 in
theorem ggX8_betweenBatches_X8_emptiesOf : GoodIn wsX8_betweenBatches wsX8_emptiesOf := goodIn_r _ [6, 7, 8, 9, 10, 11, 12, 13, 14, 15, 16, 17, 18, 19, 20, 21, 22, 23, 24, 25, 26, 27, 28, 29, 30, 31, 32, 33, 34, 35, 36, 37, 38, 39, 40, 41, 42, 43, 44, 45, 46] (by decide +kernel) (by decide +kernel)
set_option maxRecDepth 20000 in
theorem gX8_betweenBatches_X8_emptiesOf : GoodIn wsX8_betweenBatches (wsV RX8 139 RX8 yX8_emptiesOf wsX8_emptiesOf) := goodIn_app (goodIn_of _ (by decide +kernel)) ggX8_betweenBatches_X8_emptiesOf
theorem dX8_betweenBatches_0 : decode cX8_betweenBatches 0 = .ok (.aload_n 0, 1) := by decide +kernel
theorem dX8_betweenBatches_1 : decode cX8_betweenBatches 1 = .ok (.aload_n 0, 1) := by decide +kernel
theorem dX8_betweenBatches_2 : decode cX8_betweenBatches 2 = .ok (.getfield 44, 3) := by decide +kernel
theorem dX8_betweenBatches_5 : decode cX8_betweenBatches 5 = .ok (.iload_n 1, 1) := by decide +kernel
theorem dX8_betweenBatches_6 : decode cX8_betweenBatches 6 = .ok (.iaload, 1) := by decide +kernel
theorem dX8_betweenBatches_7 : decode cX8_betweenBatches 7 = .ok (.aload_n 0, 1) := by decide +kernel
theorem dX8_betweenBatches_8 : decode cX8_betweenBatches 8 = .ok (.getfield 44, 3) := by decide +kernel
theorem dX8_betweenBatches_11 : decode cX8_betweenBatches 11 = .ok (.iload_n 2, 1) := by decide +kernel
theorem dX8_betweenBatches_12 : decode cX8_betweenBatches 12 = .ok (.iaload, 1) := by decide +kernel
theorem dX8_betweenBatches_13 : decode cX8_betweenBatches 13 = .ok (.invokevirtual 139, 3) := by decide +kernel
theorem dX8_betweenBatches_16 : decode cX8_betweenBatches 16 = .ok (.ireturn, 1) := by decide +kernel
set_option maxRecDepth 20000 in
theorem ggX8_empties_X8_betweenBatches : GoodIn wsX8_empties wsX8_betweenBatches := goodIn_r _ [7, 8, 9, 10, 11, 6, 12, 13, 14, 15, 16, 17, 18, 19, 20, 21, 22, 23, 24, 25, 26, 27, 28, 29, 30, 31, 32, 33, 34, 35, 36, 37, 38, 39, 40, 41, 42, 43, 44, 45, 46, 47, 48, 49, 50, 51, 52] (by decide +kernel) (by decide +kernel)
set_option maxRecDepth 20000 in
theorem gX8_empties_X8_betweenBatches : GoodIn wsX8_empties (wsV RX8 143 RX8 yX8_betweenBatches wsX8_betweenBatches) := goodIn_app (goodIn_of _ (by decide +kernel)) ggX8_empties_X8_betweenBatches
theorem dX8_empties_0 : decode cX8_empties 0 = .ok (.iconst 0, 1) := by decide +kernel
theorem dX8_empties_1 : decode cX8_empties 1 = .ok (.istore_n 1, 1) := by decide +kernel
theorem dX8_empties_2 : decode cX8_empties 2 = .ok (.iconst 1, 1) := by decide +kernel
theorem dX8_empties_3 : decode cX8_empties 3 = .ok (.istore_n 2, 1) := by decide +kernel
theorem dX8_empties_4 : decode cX8_empties 4 = .ok (.iload_n 2, 1) := by decide +kernel
theorem dX8_empties_5 : decode cX8_empties 5 = .ok (.aload_n 0, 1) := by decide +kernel
theorem dX8_empties_6 : decode cX8_empties 6 = .ok (.getfield 133, 3) := by decide +kernel
theorem dX8_empties_9 : decode cX8_empties 9 = .ok (.if_icmp .ge 30, 3) := by decide +kernel
theorem dX8_empties_12 : decode cX8_empties 12 = .ok (.iload_n 1, 1) := by decide +kernel
theorem dX8_empties_13 : decode cX8_empties 13 = .ok (.aload_n 0, 1) := by decide +kernel
theorem dX8_empties_14 : decode cX8_empties 14 = .ok (.aload_n 0, 1) := by decide +kernel
theorem dX8_empties_15 : decode cX8_empties 15 = .ok (.getfield 53, 3) := by decide +kernel
theorem dX8_empties_18 : decode cX8_empties 18 = .ok (.iload_n 2, 1) := by decide +kernel
theorem dX8_empties_19 : decode cX8_empties 19 = .ok (.iconst 1, 1) := by decide +kernel
theorem dX8_empties_20 : decode cX8_empties 20 = .ok (.isub, 1) := by decide +kernel
theorem dX8_empties_21 : decode cX8_empties 21 = .ok (.iaload, 1) := by decide +kernel
theorem dX8_empties_22 : decode cX8_empties 22 = .ok (.aload_n 0, 1) := by decide +kernel
theorem dX8_empties_23 : decode cX8_empties 23 = .ok (.getfield 53, 3) := by decide +kernel
theorem dX8_empties_26 : decode cX8_empties 26 = .ok (.iload_n 2, 1) := by decide +kernel
theorem dX8_empties_27 : decode cX8_empties 27 = .ok (.iaload, 1) := by decide +kernel
theorem dX8_empties_28 : decode cX8_empties 28 = .ok (.invokevirtual 143, 3) := by decide +kernel
theorem dX8_empties_31 : decode cX8_empties 31 = .ok (.iadd, 1) := by decide +kernel
theorem dX8_empties_32 : decode cX8_empties 32 = .ok (.istore_n 1, 1) := by decide +kernel
theorem dX8_empties_33 : decode cX8_empties 33 = .ok (.iinc 2 1, 3) := by decide +kernel
theorem dX8_empties_36 : decode cX8_empties 36 = .ok (.goto (-32), 3) := by decide +kernel
theorem dX8_empties_39 : decode cX8_empties 39 = .ok (.iload_n 1, 1) := by decide +kernel
theorem dX8_empties_40 : decode cX8_empties 40 = .ok (.ireturn, 1) := by decide +kernel
set_option maxRecDepth 20000 in
theorem ggX8_plan_X8_betweenBatches : GoodIn wsX8_plan wsX8_betweenBatches := goodIn_r _ [9, 10, 11, 12, 13, 8, 14, 15, 16, 17, 18, 19, 20, 21, 22, 23, 24, 25, 26, 27, 28, 29, 30, 31, 32, 33, 34, 35, 36, 37, 38, 39, 40, 41, 42, 43, 44, 45, 46, 47, 48, 49, 50, 51, 52, 53, 54] (by decide +kernel) (by decide +kernel)
set_option maxRecDepth 20000 in
theorem gX8_plan_X8_betweenBatches : GoodIn wsX8_plan (wsV RX8 143 RX8 yX8_betweenBatches wsX8_betweenBatches) := goodIn_app (goodIn_of _ (by decide +kernel)) ggX8_plan_X8_betweenBatches
theorem dX8_plan_0 : decode cX8_plan 0 = .ok (.aload_n 0, 1) := by decide +kernel
theorem dX8_plan_1 : decode cX8_plan 1 = .ok (.getfield 133, 3) := by decide +kernel
theorem dX8_plan_4 : decode cX8_plan 4 = .ok (.bipush 8, 2) := by decide +kernel
theorem dX8_plan_6 : decode cX8_plan 6 = .ok (.if_icmp .le 6, 3) := by decide +kernel
theorem dX8_plan_9 : decode cX8_plan 9 = .ok (.bipush (-4), 2) := by decide +kernel
theorem dX8_plan_11 : decode cX8_plan 11 = .ok (.ireturn, 1) := by decide +kernel
theorem dX8_plan_12 : decode cX8_plan 12 = .ok (.aload_n 0, 1) := by decide +kernel
theorem dX8_plan_13 : decode cX8_plan 13 = .ok (.getfield 133, 3) := by decide +kernel
theorem dX8_plan_16 : decode cX8_plan 16 = .ok (.ifCond .ne 5, 3) := by decide +kernel
theorem dX8_plan_19 : decode cX8_plan 19 = .ok (.iconst 0, 1) := by decide +kernel
theorem dX8_plan_20 : decode cX8_plan 20 = .ok (.ireturn, 1) := by decide +kernel
theorem dX8_plan_21 : decode cX8_plan 21 = .ok (.iconst 1, 1) := by decide +kernel
theorem dX8_plan_22 : decode cX8_plan 22 = .ok (.aload_n 0, 1) := by decide +kernel
theorem dX8_plan_23 : decode cX8_plan 23 = .ok (.getfield 133, 3) := by decide +kernel
theorem dX8_plan_26 : decode cX8_plan 26 = .ok (.ishl, 1) := by decide +kernel
theorem dX8_plan_27 : decode cX8_plan 27 = .ok (.iconst 1, 1) := by decide +kernel
theorem dX8_plan_28 : decode cX8_plan 28 = .ok (.isub, 1) := by decide +kernel
theorem dX8_plan_29 : decode cX8_plan 29 = .ok (.istore_n 1, 1) := by decide +kernel
theorem dX8_plan_30 : decode cX8_plan 30 = .ok (.iconst 1, 1) := by decide +kernel
theorem dX8_plan_31 : decode cX8_plan 31 = .ok (.istore_n 2, 1) := by decide +kernel
theorem dX8_plan_32 : decode cX8_plan 32 = .ok (.iload_n 2, 1) := by decide +kernel
theorem dX8_plan_33 : decode cX8_plan 33 = .ok (.iload_n 1, 1) := by decide +kernel
theorem dX8_plan_34 : decode cX8_plan 34 = .ok (.if_icmp .gt 160, 3) := by decide +kernel
theorem dX8_plan_37 : decode cX8_plan 37 = .ok (.iconst 0, 1) := by decide +kernel
theorem dX8_plan_38 : decode cX8_plan 38 = .ok (.istore_n 3, 1) := by decide +kernel
theorem dX8_plan_39 : decode cX8_plan 39 = .ok (.iload_n 3, 1) := by decide +kernel
theorem dX8_plan_40 : decode cX8_plan 40 = .ok (.aload_n 0, 1) := by decide +kernel
theorem dX8_plan_41 : decode cX8_plan 41 = .ok (.getfield 133, 3) := by decide +kernel
theorem dX8_plan_44 : decode cX8_plan 44 = .ok (.if_icmp .ge 144, 3) := by decide +kernel
theorem dX8_plan_47 : decode cX8_plan 47 = .ok (.iload_n 2, 1) := by decide +kernel
theorem dX8_plan_48 : decode cX8_plan 48 = .ok (.iconst 1, 1) := by decide +kernel
theorem dX8_plan_49 : decode cX8_plan 49 = .ok (.iload_n 3, 1) := by decide +kernel
theorem dX8_plan_50 : decode cX8_plan 50 = .ok (.ishl, 1) := by decide +kernel
theorem dX8_plan_51 : decode cX8_plan 51 = .ok (.iconst (-1), 1) := by decide +kernel
theorem dX8_plan_52 : decode cX8_plan 52 = .ok (.ixor, 1) := by decide +kernel
theorem dX8_plan_53 : decode cX8_plan 53 = .ok (.iand, 1) := by decide +kernel
theorem dX8_plan_54 : decode cX8_plan 54 = .ok (.istore 4, 2) := by decide +kernel
theorem dX8_plan_56 : decode cX8_plan 56 = .ok (.aload_n 0, 1) := by decide +kernel
theorem dX8_plan_57 : decode cX8_plan 57 = .ok (.getfield 66, 3) := by decide +kernel
theorem dX8_plan_60 : decode cX8_plan 60 = .ok (.bipush 12, 2) := by decide +kernel
theorem dX8_plan_62 : decode cX8_plan 62 = .ok (.iload_n 2, 1) := by decide +kernel
theorem dX8_plan_63 : decode cX8_plan 63 = .ok (.imul, 1) := by decide +kernel
theorem dX8_plan_64 : decode cX8_plan 64 = .ok (.iload_n 3, 1) := by decide +kernel
theorem dX8_plan_65 : decode cX8_plan 65 = .ok (.iadd, 1) := by decide +kernel
theorem dX8_plan_66 : decode cX8_plan 66 = .ok (.iload 4, 2) := by decide +kernel
theorem dX8_plan_68 : decode cX8_plan 68 = .ok (.ifCond .ne 7, 3) := by decide +kernel
theorem dX8_plan_71 : decode cX8_plan 71 = .ok (.iconst 0, 1) := by decide +kernel
theorem dX8_plan_72 : decode cX8_plan 72 = .ok (.goto 5, 3) := by decide +kernel
theorem dX8_plan_75 : decode cX8_plan 75 = .ok (.ldc 146, 2) := by decide +kernel
theorem dX8_plan_77 : decode cX8_plan 77 = .ok (.iastore, 1) := by decide +kernel
theorem dX8_plan_78 : decode cX8_plan 78 = .ok (.iconst 0, 1) := by decide +kernel
theorem dX8_plan_79 : decode cX8_plan 79 = .ok (.istore 5, 2) := by decide +kernel
theorem dX8_plan_81 : decode cX8_plan 81 = .ok (.iload 5, 2) := by decide +kernel
theorem dX8_plan_83 : decode cX8_plan 83 = .ok (.aload_n 0, 1) := by decide +kernel
theorem dX8_plan_84 : decode cX8_plan 84 = .ok (.getfield 133, 3) := by decide +kernel
theorem dX8_plan_87 : decode cX8_plan 87 = .ok (.if_icmp .ge 95, 3) := by decide +kernel
theorem dX8_plan_90 : decode cX8_plan 90 = .ok (.iload_n 2, 1) := by decide +kernel
theorem dX8_plan_91 : decode cX8_plan 91 = .ok (.iload_n 3, 1) := by decide +kernel
theorem dX8_plan_92 : decode cX8_plan 92 = .ok (.ishr, 1) := by decide +kernel
theorem dX8_plan_93 : decode cX8_plan 93 = .ok (.iconst 1, 1) := by decide +kernel
theorem dX8_plan_94 : decode cX8_plan 94 = .ok (.iand, 1) := by decide +kernel
theorem dX8_plan_95 : decode cX8_plan 95 = .ok (.iconst 1, 1) := by decide +kernel
theorem dX8_plan_96 : decode cX8_plan 96 = .ok (.if_icmp .ne 86, 3) := by decide +kernel
theorem dX8_plan_99 : decode cX8_plan 99 = .ok (.iload 4, 2) := by decide +kernel
theorem dX8_plan_101 : decode cX8_plan 101 = .ok (.iload 5, 2) := by decide +kernel
theorem dX8_plan_103 : decode cX8_plan 103 = .ok (.ishr, 1) := by decide +kernel
theorem dX8_plan_104 : decode cX8_plan 104 = .ok (.iconst 1, 1) := by decide +kernel
theorem dX8_plan_105 : decode cX8_plan 105 = .ok (.iand, 1) := by decide +kernel
theorem dX8_plan_106 : decode cX8_plan 106 = .ok (.iconst 1, 1) := by decide +kernel
theorem dX8_plan_107 : decode cX8_plan 107 = .ok (.if_icmp .ne 69, 3) := by decide +kernel
theorem dX8_plan_110 : decode cX8_plan 110 = .ok (.aload_n 0, 1) := by decide +kernel
theorem dX8_plan_111 : decode cX8_plan 111 = .ok (.iload_n 3, 1) := by decide +kernel
theorem dX8_plan_112 : decode cX8_plan 112 = .ok (.iload 5, 2) := by decide +kernel
theorem dX8_plan_114 : decode cX8_plan 114 = .ok (.invokevirtual 143, 3) := by decide +kernel
theorem dX8_plan_117 : decode cX8_plan 117 = .ok (.aload_n 0, 1) := by decide +kernel
theorem dX8_plan_118 : decode cX8_plan 118 = .ok (.getfield 66, 3) := by decide +kernel
theorem dX8_plan_121 : decode cX8_plan 121 = .ok (.bipush 12, 2) := by decide +kernel
theorem dX8_plan_123 : decode cX8_plan 123 = .ok (.iload 4, 2) := by decide +kernel
theorem dX8_plan_125 : decode cX8_plan 125 = .ok (.imul, 1) := by decide +kernel
theorem dX8_plan_126 : decode cX8_plan 126 = .ok (.iload 5, 2) := by decide +kernel
theorem dX8_plan_128 : decode cX8_plan 128 = .ok (.iadd, 1) := by decide +kernel
theorem dX8_plan_129 : decode cX8_plan 129 = .ok (.iaload, 1) := by decide +kernel
theorem dX8_plan_130 : decode cX8_plan 130 = .ok (.iadd, 1) := by decide +kernel
theorem dX8_plan_131 : decode cX8_plan 131 = .ok (.istore 6, 2) := by decide +kernel
theorem dX8_plan_133 : decode cX8_plan 133 = .ok (.aload_n 0, 1) := by decide +kernel
theorem dX8_plan_134 : decode cX8_plan 134 = .ok (.getfield 66, 3) := by decide +kernel
theorem dX8_plan_137 : decode cX8_plan 137 = .ok (.bipush 12, 2) := by decide +kernel
theorem dX8_plan_139 : decode cX8_plan 139 = .ok (.iload_n 2, 1) := by decide +kernel
theorem dX8_plan_140 : decode cX8_plan 140 = .ok (.imul, 1) := by decide +kernel
theorem dX8_plan_141 : decode cX8_plan 141 = .ok (.iload_n 3, 1) := by decide +kernel
theorem dX8_plan_142 : decode cX8_plan 142 = .ok (.iadd, 1) := by decide +kernel
theorem dX8_plan_143 : decode cX8_plan 143 = .ok (.iload 6, 2) := by decide +kernel
theorem dX8_plan_145 : decode cX8_plan 145 = .ok (.aload_n 0, 1) := by decide +kernel
theorem dX8_plan_146 : decode cX8_plan 146 = .ok (.getfield 66, 3) := by decide +kernel
theorem dX8_plan_149 : decode cX8_plan 149 = .ok (.bipush 12, 2) := by decide +kernel
theorem dX8_plan_151 : decode cX8_plan 151 = .ok (.iload_n 2, 1) := by decide +kernel
theorem dX8_plan_152 : decode cX8_plan 152 = .ok (.imul, 1) := by decide +kernel
theorem dX8_plan_153 : decode cX8_plan 153 = .ok (.iload_n 3, 1) := by decide +kernel
theorem dX8_plan_154 : decode cX8_plan 154 = .ok (.iadd, 1) := by decide +kernel
theorem dX8_plan_155 : decode cX8_plan 155 = .ok (.iaload, 1) := by decide +kernel
theorem dX8_plan_156 : decode cX8_plan 156 = .ok (.if_icmp .ge 8, 3) := by decide +kernel
theorem dX8_plan_159 : decode cX8_plan 159 = .ok (.iload 6, 2) := by decide +kernel
theorem dX8_plan_161 : decode cX8_plan 161 = .ok (.goto 14, 3) := by decide +kernel
theorem dX8_plan_164 : decode cX8_plan 164 = .ok (.aload_n 0, 1) := by decide +kernel
theorem dX8_plan_165 : decode cX8_plan 165 = .ok (.getfield 66, 3) := by decide +kernel
theorem dX8_plan_168 : decode cX8_plan 168 = .ok (.bipush 12, 2) := by decide +kernel
theorem dX8_plan_170 : decode cX8_plan 170 = .ok (.iload_n 2, 1) := by decide +kernel
theorem dX8_plan_171 : decode cX8_plan 171 = .ok (.imul, 1) := by decide +kernel
theorem dX8_plan_172 : decode cX8_plan 172 = .ok (.iload_n 3, 1) := by decide +kernel
theorem dX8_plan_173 : decode cX8_plan 173 = .ok (.iadd, 1) := by decide +kernel
theorem dX8_plan_174 : decode cX8_plan 174 = .ok (.iaload, 1) := by decide +kernel
theorem dX8_plan_175 : decode cX8_plan 175 = .ok (.iastore, 1) := by decide +kernel
theorem dX8_plan_176 : decode cX8_plan 176 = .ok (.iinc 5 1, 3) := by decide +kernel
theorem dX8_plan_179 : decode cX8_plan 179 = .ok (.goto (-98), 3) := by decide +kernel
theorem dX8_plan_182 : decode cX8_plan 182 = .ok (.iinc 3 1, 3) := by decide +kernel
theorem dX8_plan_185 : decode cX8_plan 185 = .ok (.goto (-146), 3) := by decide +kernel
theorem dX8_plan_188 : decode cX8_plan 188 = .ok (.iinc 2 1, 3) := by decide +kernel
theorem dX8_plan_191 : decode cX8_plan 191 = .ok (.goto (-159), 3) := by decide +kernel
theorem dX8_plan_194 : decode cX8_plan 194 = .ok (.iconst 0, 1) := by decide +kernel
theorem dX8_plan_195 : decode cX8_plan 195 = .ok (.istore_n 2, 1) := by decide +kernel
theorem dX8_plan_196 : decode cX8_plan 196 = .ok (.iconst 1, 1) := by decide +kernel
theorem dX8_plan_197 : decode cX8_plan 197 = .ok (.istore_n 3, 1) := by decide +kernel
theorem dX8_plan_198 : decode cX8_plan 198 = .ok (.iload_n 3, 1) := by decide +kernel
theorem dX8_plan_199 : decode cX8_plan 199 = .ok (.aload_n 0, 1) := by decide +kernel
theorem dX8_plan_200 : decode cX8_plan 200 = .ok (.getfield 133, 3) := by decide +kernel
theorem dX8_plan_203 : decode cX8_plan 203 = .ok (.if_icmp .ge 40, 3) := by decide +kernel
theorem dX8_plan_206 : decode cX8_plan 206 = .ok (.aload_n 0, 1) := by decide +kernel
theorem dX8_plan_207 : decode cX8_plan 207 = .ok (.getfield 66, 3) := by decide +kernel
theorem dX8_plan_210 : decode cX8_plan 210 = .ok (.bipush 12, 2) := by decide +kernel
theorem dX8_plan_212 : decode cX8_plan 212 = .ok (.iload_n 1, 1) := by decide +kernel
theorem dX8_plan_213 : decode cX8_plan 213 = .ok (.imul, 1) := by decide +kernel
theorem dX8_plan_214 : decode cX8_plan 214 = .ok (.iload_n 3, 1) := by decide +kernel
theorem dX8_plan_215 : decode cX8_plan 215 = .ok (.iadd, 1) := by decide +kernel
theorem dX8_plan_216 : decode cX8_plan 216 = .ok (.iaload, 1) := by decide +kernel
theorem dX8_plan_217 : decode cX8_plan 217 = .ok (.aload_n 0, 1) := by decide +kernel
theorem dX8_plan_218 : decode cX8_plan 218 = .ok (.getfield 66, 3) := by decide +kernel
theorem dX8_plan_221 : decode cX8_plan 221 = .ok (.bipush 12, 2) := by decide +kernel
theorem dX8_plan_223 : decode cX8_plan 223 = .ok (.iload_n 1, 1) := by decide +kernel
theorem dX8_plan_224 : decode cX8_plan 224 = .ok (.imul, 1) := by decide +kernel
theorem dX8_plan_225 : decode cX8_plan 225 = .ok (.iload_n 2, 1) := by decide +kernel
theorem dX8_plan_226 : decode cX8_plan 226 = .ok (.iadd, 1) := by decide +kernel
theorem dX8_plan_227 : decode cX8_plan 227 = .ok (.iaload, 1) := by decide +kernel
theorem dX8_plan_228 : decode cX8_plan 228 = .ok (.if_icmp .ge 7, 3) := by decide +kernel
theorem dX8_plan_231 : decode cX8_plan 231 = .ok (.iload_n 3, 1) := by decide +kernel
theorem dX8_plan_232 : decode cX8_plan 232 = .ok (.goto 4, 3) := by decide +kernel
theorem dX8_plan_235 : decode cX8_plan 235 = .ok (.iload_n 2, 1) := by decide +kernel
theorem dX8_plan_236 : decode cX8_plan 236 = .ok (.istore_n 2, 1) := by decide +kernel
theorem dX8_plan_237 : decode cX8_plan 237 = .ok (.iinc 3 1, 3) := by decide +kernel
theorem dX8_plan_240 : decode cX8_plan 240 = .ok (.goto (-42), 3) := by decide +kernel
theorem dX8_plan_243 : decode cX8_plan 243 = .ok (.aload_n 0, 1) := by decide +kernel
theorem dX8_plan_244 : decode cX8_plan 244 = .ok (.getfield 66, 3) := by decide +kernel
theorem dX8_plan_247 : decode cX8_plan 247 = .ok (.bipush 12, 2) := by decide +kernel
theorem dX8_plan_249 : decode cX8_plan 249 = .ok (.iload_n 1, 1) := by decide +kernel
theorem dX8_plan_250 : decode cX8_plan 250 = .ok (.imul, 1) := by decide +kernel
theorem dX8_plan_251 : decode cX8_plan 251 = .ok (.iload_n 2, 1) := by decide +kernel
theorem dX8_plan_252 : decode cX8_plan 252 = .ok (.iadd, 1) := by decide +kernel
theorem dX8_plan_253 : decode cX8_plan 253 = .ok (.iaload, 1) := by decide +kernel
theorem dX8_plan_254 : decode cX8_plan 254 = .ok (.istore_n 3, 1) := by decide +kernel
theorem dX8_plan_255 : decode cX8_plan 255 = .ok (.iload_n 1, 1) := by decide +kernel
theorem dX8_plan_256 : decode cX8_plan 256 = .ok (.istore 4, 2) := by decide +kernel
theorem dX8_plan_258 : decode cX8_plan 258 = .ok (.iload_n 2, 1) := by decide +kernel
theorem dX8_plan_259 : decode cX8_plan 259 = .ok (.istore 5, 2) := by decide +kernel
theorem dX8_plan_261 : decode cX8_plan 261 = .ok (.aload_n 0, 1) := by decide +kernel
theorem dX8_plan_262 : decode cX8_plan 262 = .ok (.getfield 53, 3) := by decide +kernel
theorem dX8_plan_265 : decode cX8_plan 265 = .ok (.iconst 0, 1) := by decide +kernel
theorem dX8_plan_266 : decode cX8_plan 266 = .ok (.iload 5, 2) := by decide +kernel
theorem dX8_plan_268 : decode cX8_plan 268 = .ok (.iastore, 1) := by decide +kernel
theorem dX8_plan_269 : decode cX8_plan 269 = .ok (.iconst 1, 1) := by decide +kernel
theorem dX8_plan_270 : decode cX8_plan 270 = .ok (.istore 6, 2) := by decide +kernel
theorem dX8_plan_272 : decode cX8_plan 272 = .ok (.iload 6, 2) := by decide +kernel
theorem dX8_plan_274 : decode cX8_plan 274 = .ok (.aload_n 0, 1) := by decide +kernel
theorem dX8_plan_275 : decode cX8_plan 275 = .ok (.getfield 133, 3) := by decide +kernel
theorem dX8_plan_278 : decode cX8_plan 278 = .ok (.if_icmp .ge 94, 3) := by decide +kernel
theorem dX8_plan_281 : decode cX8_plan 281 = .ok (.iload 4, 2) := by decide +kernel
theorem dX8_plan_283 : decode cX8_plan 283 = .ok (.iconst 1, 1) := by decide +kernel
theorem dX8_plan_284 : decode cX8_plan 284 = .ok (.iload 5, 2) := by decide +kernel
theorem dX8_plan_286 : decode cX8_plan 286 = .ok (.ishl, 1) := by decide +kernel
theorem dX8_plan_287 : decode cX8_plan 287 = .ok (.iconst (-1), 1) := by decide +kernel
theorem dX8_plan_288 : decode cX8_plan 288 = .ok (.ixor, 1) := by decide +kernel
theorem dX8_plan_289 : decode cX8_plan 289 = .ok (.iand, 1) := by decide +kernel
theorem dX8_plan_290 : decode cX8_plan 290 = .ok (.istore 7, 2) := by decide +kernel
theorem dX8_plan_292 : decode cX8_plan 292 = .ok (.iconst 0, 1) := by decide +kernel
theorem dX8_plan_293 : decode cX8_plan 293 = .ok (.istore 8, 2) := by decide +kernel
theorem dX8_plan_295 : decode cX8_plan 295 = .ok (.iload 7, 2) := by decide +kernel
theorem dX8_plan_297 : decode cX8_plan 297 = .ok (.iload 8, 2) := by decide +kernel
theorem dX8_plan_299 : decode cX8_plan 299 = .ok (.ishr, 1) := by decide +kernel
theorem dX8_plan_300 : decode cX8_plan 300 = .ok (.iconst 1, 1) := by decide +kernel
theorem dX8_plan_301 : decode cX8_plan 301 = .ok (.iand, 1) := by decide +kernel
theorem dX8_plan_302 : decode cX8_plan 302 = .ok (.ifCond .eq 41, 3) := by decide +kernel
theorem dX8_plan_305 : decode cX8_plan 305 = .ok (.aload_n 0, 1) := by decide +kernel
theorem dX8_plan_306 : decode cX8_plan 306 = .ok (.iload 5, 2) := by decide +kernel
theorem dX8_plan_308 : decode cX8_plan 308 = .ok (.iload 8, 2) := by decide +kernel
theorem dX8_plan_310 : decode cX8_plan 310 = .ok (.invokevirtual 143, 3) := by decide +kernel
theorem dX8_plan_313 : decode cX8_plan 313 = .ok (.aload_n 0, 1) := by decide +kernel
theorem dX8_plan_314 : decode cX8_plan 314 = .ok (.getfield 66, 3) := by decide +kernel
theorem dX8_plan_317 : decode cX8_plan 317 = .ok (.bipush 12, 2) := by decide +kernel
theorem dX8_plan_319 : decode cX8_plan 319 = .ok (.iload 7, 2) := by decide +kernel
theorem dX8_plan_321 : decode cX8_plan 321 = .ok (.imul, 1) := by decide +kernel
theorem dX8_plan_322 : decode cX8_plan 322 = .ok (.iload 8, 2) := by decide +kernel
theorem dX8_plan_324 : decode cX8_plan 324 = .ok (.iadd, 1) := by decide +kernel
theorem dX8_plan_325 : decode cX8_plan 325 = .ok (.iaload, 1) := by decide +kernel
theorem dX8_plan_326 : decode cX8_plan 326 = .ok (.iadd, 1) := by decide +kernel
theorem dX8_plan_327 : decode cX8_plan 327 = .ok (.aload_n 0, 1) := by decide +kernel
theorem dX8_plan_328 : decode cX8_plan 328 = .ok (.getfield 66, 3) := by decide +kernel
theorem dX8_plan_331 : decode cX8_plan 331 = .ok (.bipush 12, 2) := by decide +kernel
theorem dX8_plan_333 : decode cX8_plan 333 = .ok (.iload 4, 2) := by decide +kernel
theorem dX8_plan_335 : decode cX8_plan 335 = .ok (.imul, 1) := by decide +kernel
theorem dX8_plan_336 : decode cX8_plan 336 = .ok (.iload 5, 2) := by decide +kernel
theorem dX8_plan_338 : decode cX8_plan 338 = .ok (.iadd, 1) := by decide +kernel
theorem dX8_plan_339 : decode cX8_plan 339 = .ok (.iaload, 1) := by decide +kernel
theorem dX8_plan_340 : decode cX8_plan 340 = .ok (.if_icmp .eq 9, 3) := by decide +kernel
theorem dX8_plan_343 : decode cX8_plan 343 = .ok (.iinc 8 1, 3) := by decide +kernel
theorem dX8_plan_346 : decode cX8_plan 346 = .ok (.goto (-51), 3) := by decide +kernel
theorem dX8_plan_349 : decode cX8_plan 349 = .ok (.iload 7, 2) := by decide +kernel
theorem dX8_plan_351 : decode cX8_plan 351 = .ok (.istore 4, 2) := by decide +kernel
theorem dX8_plan_353 : decode cX8_plan 353 = .ok (.iload 8, 2) := by decide +kernel
theorem dX8_plan_355 : decode cX8_plan 355 = .ok (.istore 5, 2) := by decide +kernel
theorem dX8_plan_357 : decode cX8_plan 357 = .ok (.aload_n 0, 1) := by decide +kernel
theorem dX8_plan_358 : decode cX8_plan 358 = .ok (.getfield 53, 3) := by decide +kernel
theorem dX8_plan_361 : decode cX8_plan 361 = .ok (.iload 6, 2) := by decide +kernel
theorem dX8_plan_363 : decode cX8_plan 363 = .ok (.iload 5, 2) := by decide +kernel
theorem dX8_plan_365 : decode cX8_plan 365 = .ok (.iastore, 1) := by decide +kernel
theorem dX8_plan_366 : decode cX8_plan 366 = .ok (.iinc 6 1, 3) := by decide +kernel
theorem dX8_plan_369 : decode cX8_plan 369 = .ok (.goto (-97), 3) := by decide +kernel
theorem dX8_plan_372 : decode cX8_plan 372 = .ok (.iload_n 3, 1) := by decide +kernel
theorem dX8_plan_373 : decode cX8_plan 373 = .ok (.ireturn, 1) := by decide +kernel
set_option maxRecDepth 20000 in
theorem ggX8_greedy_X8_betweenBatches : GoodIn wsX8_greedy wsX8_betweenBatches := goodIn_r _ [7, 8, 9, 10, 11, 6, 12, 13, 14, 15, 20, 21, 22, 23, 24, 25, 26, 27, 28, 29, 30, 31, 32, 33, 34, 35, 36, 37, 38, 39, 40, 41, 42, 43, 44, 45, 46, 47, 48, 49, 50, 51, 52, 53, 54, 55, 56] (by decide +kernel) (by decide +kernel)
set_option maxRecDepth 20000 in
theorem gX8_greedy_X8_betweenBatches : GoodIn wsX8_greedy (wsV RX8 143 RX8 yX8_betweenBatches wsX8_betweenBatches) := goodIn_app (goodIn_of _ (by decide +kernel)) ggX8_greedy_X8_betweenBatches
set_option maxRecDepth 20000 in
theorem ggX8_greedy_X8_empties : GoodIn wsX8_greedy wsX8_empties := goodIn_r _ [19, 1, 2, 3, 4, 5, 6, 7, 8, 9, 10, 11, 12, 13, 14, 15, 20, 21, 22, 23, 24, 25, 26, 27, 28, 29, 30, 31, 32, 33, 34, 35, 36, 37, 38, 39, 40, 41, 42, 43, 44, 45, 46, 47, 48, 49, 50, 51, 52, 53, 54, 55, 56] (by decide +kernel) (by decide +kernel)
set_option maxRecDepth 20000 in
theorem gX8_greedy_X8_empties : GoodIn wsX8_greedy (wsV RX8 147 RX8 yX8_empties wsX8_empties) := goodIn_app (goodIn_of _ (by decide +kernel)) ggX8_greedy_X8_empties
theorem dX8_greedy_0 : decode cX8_greedy 0 = .ok (.iconst 0, 1) := by decide +kernel
theorem dX8_greedy_1 : decode cX8_greedy 1 = .ok (.istore_n 1, 1) := by decide +kernel
theorem dX8_greedy_2 : decode cX8_greedy 2 = .ok (.iconst 1, 1) := by decide +kernel
theorem dX8_greedy_3 : decode cX8_greedy 3 = .ok (.istore_n 2, 1) := by decide +kernel
theorem dX8_greedy_4 : decode cX8_greedy 4 = .ok (.iload_n 2, 1) := by decide +kernel
theorem dX8_greedy_5 : decode cX8_greedy 5 = .ok (.aload_n 0, 1) := by decide +kernel
theorem dX8_greedy_6 : decode cX8_greedy 6 = .ok (.getfield 133, 3) := by decide +kernel
theorem dX8_greedy_9 : decode cX8_greedy 9 = .ok (.if_icmp .ge 20, 3) := by decide +kernel
theorem dX8_greedy_12 : decode cX8_greedy 12 = .ok (.iload_n 1, 1) := by decide +kernel
theorem dX8_greedy_13 : decode cX8_greedy 13 = .ok (.iconst 1, 1) := by decide +kernel
theorem dX8_greedy_14 : decode cX8_greedy 14 = .ok (.aload_n 0, 1) := by decide +kernel
theorem dX8_greedy_15 : decode cX8_greedy 15 = .ok (.getfield 53, 3) := by decide +kernel
theorem dX8_greedy_18 : decode cX8_greedy 18 = .ok (.iload_n 2, 1) := by decide +kernel
theorem dX8_greedy_19 : decode cX8_greedy 19 = .ok (.iaload, 1) := by decide +kernel
theorem dX8_greedy_20 : decode cX8_greedy 20 = .ok (.ishl, 1) := by decide +kernel
theorem dX8_greedy_21 : decode cX8_greedy 21 = .ok (.ior, 1) := by decide +kernel
theorem dX8_greedy_22 : decode cX8_greedy 22 = .ok (.istore_n 1, 1) := by decide +kernel
theorem dX8_greedy_23 : decode cX8_greedy 23 = .ok (.iinc 2 1, 3) := by decide +kernel
theorem dX8_greedy_26 : decode cX8_greedy 26 = .ok (.goto (-22), 3) := by decide +kernel
theorem dX8_greedy_29 : decode cX8_greedy 29 = .ok (.iconst 1, 1) := by decide +kernel
theorem dX8_greedy_30 : decode cX8_greedy 30 = .ok (.istore_n 2, 1) := by decide +kernel
theorem dX8_greedy_31 : decode cX8_greedy 31 = .ok (.iload_n 2, 1) := by decide +kernel
theorem dX8_greedy_32 : decode cX8_greedy 32 = .ok (.aload_n 0, 1) := by decide +kernel
theorem dX8_greedy_33 : decode cX8_greedy 33 = .ok (.getfield 133, 3) := by decide +kernel
theorem dX8_greedy_36 : decode cX8_greedy 36 = .ok (.if_icmp .ge 92, 3) := by decide +kernel
theorem dX8_greedy_39 : decode cX8_greedy 39 = .ok (.iconst (-1), 1) := by decide +kernel
theorem dX8_greedy_40 : decode cX8_greedy 40 = .ok (.istore_n 3, 1) := by decide +kernel
theorem dX8_greedy_41 : decode cX8_greedy 41 = .ok (.iconst 0, 1) := by decide +kernel
theorem dX8_greedy_42 : decode cX8_greedy 42 = .ok (.istore 4, 2) := by decide +kernel
theorem dX8_greedy_44 : decode cX8_greedy 44 = .ok (.iload 4, 2) := by decide +kernel
theorem dX8_greedy_46 : decode cX8_greedy 46 = .ok (.aload_n 0, 1) := by decide +kernel
theorem dX8_greedy_47 : decode cX8_greedy 47 = .ok (.getfield 133, 3) := by decide +kernel
theorem dX8_greedy_50 : decode cX8_greedy 50 = .ok (.if_icmp .ge 57, 3) := by decide +kernel
theorem dX8_greedy_53 : decode cX8_greedy 53 = .ok (.iload_n 1, 1) := by decide +kernel
theorem dX8_greedy_54 : decode cX8_greedy 54 = .ok (.iload 4, 2) := by decide +kernel
theorem dX8_greedy_56 : decode cX8_greedy 56 = .ok (.ishr, 1) := by decide +kernel
theorem dX8_greedy_57 : decode cX8_greedy 57 = .ok (.iconst 1, 1) := by decide +kernel
theorem dX8_greedy_58 : decode cX8_greedy 58 = .ok (.iand, 1) := by decide +kernel
theorem dX8_greedy_59 : decode cX8_greedy 59 = .ok (.iconst 1, 1) := by decide +kernel
theorem dX8_greedy_60 : decode cX8_greedy 60 = .ok (.if_icmp .ne 41, 3) := by decide +kernel
theorem dX8_greedy_63 : decode cX8_greedy 63 = .ok (.iload_n 3, 1) := by decide +kernel
theorem dX8_greedy_64 : decode cX8_greedy 64 = .ok (.iconst (-1), 1) := by decide +kernel
theorem dX8_greedy_65 : decode cX8_greedy 65 = .ok (.if_icmp .eq 33, 3) := by decide +kernel
theorem dX8_greedy_68 : decode cX8_greedy 68 = .ok (.aload_n 0, 1) := by decide +kernel
theorem dX8_greedy_69 : decode cX8_greedy 69 = .ok (.aload_n 0, 1) := by decide +kernel
theorem dX8_greedy_70 : decode cX8_greedy 70 = .ok (.getfield 53, 3) := by decide +kernel
theorem dX8_greedy_73 : decode cX8_greedy 73 = .ok (.iload_n 2, 1) := by decide +kernel
theorem dX8_greedy_74 : decode cX8_greedy 74 = .ok (.iconst 1, 1) := by decide +kernel
theorem dX8_greedy_75 : decode cX8_greedy 75 = .ok (.isub, 1) := by decide +kernel
theorem dX8_greedy_76 : decode cX8_greedy 76 = .ok (.iaload, 1) := by decide +kernel
theorem dX8_greedy_77 : decode cX8_greedy 77 = .ok (.iload 4, 2) := by decide +kernel
theorem dX8_greedy_79 : decode cX8_greedy 79 = .ok (.invokevirtual 143, 3) := by decide +kernel
theorem dX8_greedy_82 : decode cX8_greedy 82 = .ok (.aload_n 0, 1) := by decide +kernel
theorem dX8_greedy_83 : decode cX8_greedy 83 = .ok (.aload_n 0, 1) := by decide +kernel
theorem dX8_greedy_84 : decode cX8_greedy 84 = .ok (.getfield 53, 3) := by decide +kernel
theorem dX8_greedy_87 : decode cX8_greedy 87 = .ok (.iload_n 2, 1) := by decide +kernel
theorem dX8_greedy_88 : decode cX8_greedy 88 = .ok (.iconst 1, 1) := by decide +kernel
theorem dX8_greedy_89 : decode cX8_greedy 89 = .ok (.isub, 1) := by decide +kernel
theorem dX8_greedy_90 : decode cX8_greedy 90 = .ok (.iaload, 1) := by decide +kernel
theorem dX8_greedy_91 : decode cX8_greedy 91 = .ok (.iload_n 3, 1) := by decide +kernel
theorem dX8_greedy_92 : decode cX8_greedy 92 = .ok (.invokevirtual 143, 3) := by decide +kernel
theorem dX8_greedy_95 : decode cX8_greedy 95 = .ok (.if_icmp .ge 6, 3) := by decide +kernel
theorem dX8_greedy_98 : decode cX8_greedy 98 = .ok (.iload 4, 2) := by decide +kernel
theorem dX8_greedy_100 : decode cX8_greedy 100 = .ok (.istore_n 3, 1) := by decide +kernel
theorem dX8_greedy_101 : decode cX8_greedy 101 = .ok (.iinc 4 1, 3) := by decide +kernel
theorem dX8_greedy_104 : decode cX8_greedy 104 = .ok (.goto (-60), 3) := by decide +kernel
theorem dX8_greedy_107 : decode cX8_greedy 107 = .ok (.aload_n 0, 1) := by decide +kernel
theorem dX8_greedy_108 : decode cX8_greedy 108 = .ok (.getfield 53, 3) := by decide +kernel
theorem dX8_greedy_111 : decode cX8_greedy 111 = .ok (.iload_n 2, 1) := by decide +kernel
theorem dX8_greedy_112 : decode cX8_greedy 112 = .ok (.iload_n 3, 1) := by decide +kernel
theorem dX8_greedy_113 : decode cX8_greedy 113 = .ok (.iastore, 1) := by decide +kernel
theorem dX8_greedy_114 : decode cX8_greedy 114 = .ok (.iload_n 1, 1) := by decide +kernel
theorem dX8_greedy_115 : decode cX8_greedy 115 = .ok (.iconst 1, 1) := by decide +kernel
theorem dX8_greedy_116 : decode cX8_greedy 116 = .ok (.iload_n 3, 1) := by decide +kernel
theorem dX8_greedy_117 : decode cX8_greedy 117 = .ok (.ishl, 1) := by decide +kernel
theorem dX8_greedy_118 : decode cX8_greedy 118 = .ok (.iconst (-1), 1) := by decide +kernel
theorem dX8_greedy_119 : decode cX8_greedy 119 = .ok (.ixor, 1) := by decide +kernel
theorem dX8_greedy_120 : decode cX8_greedy 120 = .ok (.iand, 1) := by decide +kernel
theorem dX8_greedy_121 : decode cX8_greedy 121 = .ok (.istore_n 1, 1) := by decide +kernel
theorem dX8_greedy_122 : decode cX8_greedy 122 = .ok (.iinc 2 1, 3) := by decide +kernel
theorem dX8_greedy_125 : decode cX8_greedy 125 = .ok (.goto (-94), 3) := by decide +kernel
theorem dX8_greedy_128 : decode cX8_greedy 128 = .ok (.aload_n 0, 1) := by decide +kernel
theorem dX8_greedy_129 : decode cX8_greedy 129 = .ok (.invokevirtual 147, 3) := by decide +kernel
theorem dX8_greedy_132 : decode cX8_greedy 132 = .ok (.ireturn, 1) := by decide +kernel
set_option maxRecDepth 20000 in
theorem ggX8_tunnel_X8_in : GoodIn wsX8_tunnel wsX8_in := goodIn_r _ [7] (by decide +kernel) (by decide +kernel)
set_option maxRecDepth 20000 in
theorem gX8_tunnel_X8_in : GoodIn wsX8_tunnel (va_wsS RX8 108 yX8_in wsX8_in) := goodIn_app (goodIn_of _ (by decide +kernel)) ggX8_tunnel_X8_in
theorem dX8_tunnel_0 : decode cX8_tunnel 0 = .ok (.iload_n 1, 1) := by decide +kernel
theorem dX8_tunnel_1 : decode cX8_tunnel 1 = .ok (.iconst 2, 1) := by decide +kernel
theorem dX8_tunnel_2 : decode cX8_tunnel 2 = .ok (.bipush 10, 2) := by decide +kernel
theorem dX8_tunnel_4 : decode cX8_tunnel 4 = .ok (.invokestatic 108, 3) := by decide +kernel
theorem dX8_tunnel_7 : decode cX8_tunnel 7 = .ok (.ifCond .eq 21, 3) := by decide +kernel
theorem dX8_tunnel_10 : decode cX8_tunnel 10 = .ok (.iload_n 2, 1) := by decide +kernel
theorem dX8_tunnel_11 : decode cX8_tunnel 11 = .ok (.iconst 1, 1) := by decide +kernel
theorem dX8_tunnel_12 : decode cX8_tunnel 12 = .ok (.iconst 4, 1) := by decide +kernel
theorem dX8_tunnel_13 : decode cX8_tunnel 13 = .ok (.invokestatic 108, 3) := by decide +kernel
theorem dX8_tunnel_16 : decode cX8_tunnel 16 = .ok (.ifCond .eq 12, 3) := by decide +kernel
theorem dX8_tunnel_19 : decode cX8_tunnel 19 = .ok (.iload_n 3, 1) := by decide +kernel
theorem dX8_tunnel_20 : decode cX8_tunnel 20 = .ok (.iconst 1, 1) := by decide +kernel
theorem dX8_tunnel_21 : decode cX8_tunnel 21 = .ok (.iconst 3, 1) := by decide +kernel
theorem dX8_tunnel_22 : decode cX8_tunnel 22 = .ok (.invokestatic 108, 3) := by decide +kernel
theorem dX8_tunnel_25 : decode cX8_tunnel 25 = .ok (.ifCond .ne 6, 3) := by decide +kernel
theorem dX8_tunnel_28 : decode cX8_tunnel 28 = .ok (.bipush (-2), 2) := by decide +kernel
theorem dX8_tunnel_30 : decode cX8_tunnel 30 = .ok (.ireturn, 1) := by decide +kernel
theorem dX8_tunnel_31 : decode cX8_tunnel 31 = .ok (.aload_n 0, 1) := by decide +kernel
theorem dX8_tunnel_32 : decode cX8_tunnel 32 = .ok (.iload_n 1, 1) := by decide +kernel
theorem dX8_tunnel_33 : decode cX8_tunnel 33 = .ok (.putfield 56, 3) := by decide +kernel
theorem dX8_tunnel_36 : decode cX8_tunnel 36 = .ok (.aload_n 0, 1) := by decide +kernel
theorem dX8_tunnel_37 : decode cX8_tunnel 37 = .ok (.iload_n 2, 1) := by decide +kernel
theorem dX8_tunnel_38 : decode cX8_tunnel 38 = .ok (.putfield 60, 3) := by decide +kernel
theorem dX8_tunnel_41 : decode cX8_tunnel 41 = .ok (.aload_n 0, 1) := by decide +kernel
theorem dX8_tunnel_42 : decode cX8_tunnel 42 = .ok (.iload_n 3, 1) := by decide +kernel
theorem dX8_tunnel_43 : decode cX8_tunnel 43 = .ok (.putfield 63, 3) := by decide +kernel
theorem dX8_tunnel_46 : decode cX8_tunnel 46 = .ok (.iconst 1, 1) := by decide +kernel
theorem dX8_tunnel_47 : decode cX8_tunnel 47 = .ok (.ireturn, 1) := by decide +kernel
theorem dX8_dryerAt_0 : decode cX8_dryerAt 0 = .ok (.iconst 0, 1) := by decide +kernel
theorem dX8_dryerAt_1 : decode cX8_dryerAt 1 = .ok (.istore_n 2, 1) := by decide +kernel
theorem dX8_dryerAt_2 : decode cX8_dryerAt 2 = .ok (.iload_n 2, 1) := by decide +kernel
theorem dX8_dryerAt_3 : decode cX8_dryerAt 3 = .ok (.aload_n 0, 1) := by decide +kernel
theorem dX8_dryerAt_4 : decode cX8_dryerAt 4 = .ok (.getfield 60, 3) := by decide +kernel
theorem dX8_dryerAt_7 : decode cX8_dryerAt 7 = .ok (.if_icmp .ge 21, 3) := by decide +kernel
theorem dX8_dryerAt_10 : decode cX8_dryerAt 10 = .ok (.aload_n 0, 1) := by decide +kernel
theorem dX8_dryerAt_11 : decode cX8_dryerAt 11 = .ok (.getfield 75, 3) := by decide +kernel
theorem dX8_dryerAt_14 : decode cX8_dryerAt 14 = .ok (.iload_n 2, 1) := by decide +kernel
theorem dX8_dryerAt_15 : decode cX8_dryerAt 15 = .ok (.iaload, 1) := by decide +kernel
theorem dX8_dryerAt_16 : decode cX8_dryerAt 16 = .ok (.iload_n 1, 1) := by decide +kernel
theorem dX8_dryerAt_17 : decode cX8_dryerAt 17 = .ok (.if_icmp .gt 5, 3) := by decide +kernel
theorem dX8_dryerAt_20 : decode cX8_dryerAt 20 = .ok (.iload_n 2, 1) := by decide +kernel
theorem dX8_dryerAt_21 : decode cX8_dryerAt 21 = .ok (.ireturn, 1) := by decide +kernel
theorem dX8_dryerAt_22 : decode cX8_dryerAt 22 = .ok (.iinc 2 1, 3) := by decide +kernel
theorem dX8_dryerAt_25 : decode cX8_dryerAt 25 = .ok (.goto (-23), 3) := by decide +kernel
theorem dX8_dryerAt_28 : decode cX8_dryerAt 28 = .ok (.iconst (-1), 1) := by decide +kernel
theorem dX8_dryerAt_29 : decode cX8_dryerAt 29 = .ok (.ireturn, 1) := by decide +kernel
theorem dX8_kindAt_0 : decode cX8_kindAt 0 = .ok (.aload_n 0, 1) := by decide +kernel
theorem dX8_kindAt_1 : decode cX8_kindAt 1 = .ok (.getfield 44, 3) := by decide +kernel
theorem dX8_kindAt_4 : decode cX8_kindAt 4 = .ok (.aload_n 0, 1) := by decide +kernel
theorem dX8_kindAt_5 : decode cX8_kindAt 5 = .ok (.getfield 53, 3) := by decide +kernel
theorem dX8_kindAt_8 : decode cX8_kindAt 8 = .ok (.iload_n 1, 1) := by decide +kernel
theorem dX8_kindAt_9 : decode cX8_kindAt 9 = .ok (.iaload, 1) := by decide +kernel
theorem dX8_kindAt_10 : decode cX8_kindAt 10 = .ok (.iaload, 1) := by decide +kernel
theorem dX8_kindAt_11 : decode cX8_kindAt 11 = .ok (.ireturn, 1) := by decide +kernel
set_option maxRecDepth 20000 in
theorem ggX8_waterNow_X8_kindAt : GoodIn wsX8_waterNow wsX8_kindAt := goodIn_r _ [10, 11, 5, 12, 13, 14, 15, 16, 17, 18, 19, 20, 21, 22, 23, 24, 25, 26, 27, 28, 29, 30, 31, 32, 33, 34, 35, 36, 37, 38, 39, 40, 41, 42, 43, 44, 45, 46, 47, 48] (by decide +kernel) (by decide +kernel)
set_option maxRecDepth 20000 in
theorem gX8_waterNow_X8_kindAt : GoodIn wsX8_waterNow (wsV RX8 151 RX8 yX8_kindAt wsX8_kindAt) := goodIn_app (goodIn_of _ (by decide +kernel)) ggX8_waterNow_X8_kindAt
theorem dX8_waterNow_0 : decode cX8_waterNow 0 = .ok (.iconst 0, 1) := by decide +kernel
theorem dX8_waterNow_1 : decode cX8_waterNow 1 = .ok (.istore_n 1, 1) := by decide +kernel
theorem dX8_waterNow_2 : decode cX8_waterNow 2 = .ok (.iconst 0, 1) := by decide +kernel
theorem dX8_waterNow_3 : decode cX8_waterNow 3 = .ok (.istore_n 2, 1) := by decide +kernel
theorem dX8_waterNow_4 : decode cX8_waterNow 4 = .ok (.iload_n 2, 1) := by decide +kernel
theorem dX8_waterNow_5 : decode cX8_waterNow 5 = .ok (.aload_n 0, 1) := by decide +kernel
theorem dX8_waterNow_6 : decode cX8_waterNow 6 = .ok (.getfield 56, 3) := by decide +kernel
theorem dX8_waterNow_9 : decode cX8_waterNow 9 = .ok (.if_icmp .ge 112, 3) := by decide +kernel
theorem dX8_waterNow_12 : decode cX8_waterNow 12 = .ok (.aload_n 0, 1) := by decide +kernel
theorem dX8_waterNow_13 : decode cX8_waterNow 13 = .ok (.getfield 72, 3) := by decide +kernel
theorem dX8_waterNow_16 : decode cX8_waterNow 16 = .ok (.iload_n 2, 1) := by decide +kernel
theorem dX8_waterNow_17 : decode cX8_waterNow 17 = .ok (.iaload, 1) := by decide +kernel
theorem dX8_waterNow_18 : decode cX8_waterNow 18 = .ok (.iconst (-1), 1) := by decide +kernel
theorem dX8_waterNow_19 : decode cX8_waterNow 19 = .ok (.if_icmp .eq 96, 3) := by decide +kernel
theorem dX8_waterNow_22 : decode cX8_waterNow 22 = .ok (.iload_n 2, 1) := by decide +kernel
theorem dX8_waterNow_23 : decode cX8_waterNow 23 = .ok (.iconst 1, 1) := by decide +kernel
theorem dX8_waterNow_24 : decode cX8_waterNow 24 = .ok (.iadd, 1) := by decide +kernel
theorem dX8_waterNow_25 : decode cX8_waterNow 25 = .ok (.aload_n 0, 1) := by decide +kernel
theorem dX8_waterNow_26 : decode cX8_waterNow 26 = .ok (.getfield 56, 3) := by decide +kernel
theorem dX8_waterNow_29 : decode cX8_waterNow 29 = .ok (.if_icmp .ge 54, 3) := by decide +kernel
theorem dX8_waterNow_32 : decode cX8_waterNow 32 = .ok (.aload_n 0, 1) := by decide +kernel
theorem dX8_waterNow_33 : decode cX8_waterNow 33 = .ok (.getfield 72, 3) := by decide +kernel
theorem dX8_waterNow_36 : decode cX8_waterNow 36 = .ok (.iload_n 2, 1) := by decide +kernel
theorem dX8_waterNow_37 : decode cX8_waterNow 37 = .ok (.iconst 1, 1) := by decide +kernel
theorem dX8_waterNow_38 : decode cX8_waterNow 38 = .ok (.iadd, 1) := by decide +kernel
theorem dX8_waterNow_39 : decode cX8_waterNow 39 = .ok (.iaload, 1) := by decide +kernel
theorem dX8_waterNow_40 : decode cX8_waterNow 40 = .ok (.iconst (-1), 1) := by decide +kernel
theorem dX8_waterNow_41 : decode cX8_waterNow 41 = .ok (.if_icmp .eq 42, 3) := by decide +kernel
theorem dX8_waterNow_44 : decode cX8_waterNow 44 = .ok (.aload_n 0, 1) := by decide +kernel
theorem dX8_waterNow_45 : decode cX8_waterNow 45 = .ok (.getfield 13, 3) := by decide +kernel
theorem dX8_waterNow_48 : decode cX8_waterNow 48 = .ok (.aload_n 0, 1) := by decide +kernel
theorem dX8_waterNow_49 : decode cX8_waterNow 49 = .ok (.aload_n 0, 1) := by decide +kernel
theorem dX8_waterNow_50 : decode cX8_waterNow 50 = .ok (.getfield 72, 3) := by decide +kernel
theorem dX8_waterNow_53 : decode cX8_waterNow 53 = .ok (.iload_n 2, 1) := by decide +kernel
theorem dX8_waterNow_54 : decode cX8_waterNow 54 = .ok (.iconst 1, 1) := by decide +kernel
theorem dX8_waterNow_55 : decode cX8_waterNow 55 = .ok (.iadd, 1) := by decide +kernel
theorem dX8_waterNow_56 : decode cX8_waterNow 56 = .ok (.iaload, 1) := by decide +kernel
theorem dX8_waterNow_57 : decode cX8_waterNow 57 = .ok (.invokevirtual 151, 3) := by decide +kernel
theorem dX8_waterNow_60 : decode cX8_waterNow 60 = .ok (.iaload, 1) := by decide +kernel
theorem dX8_waterNow_61 : decode cX8_waterNow 61 = .ok (.aload_n 0, 1) := by decide +kernel
theorem dX8_waterNow_62 : decode cX8_waterNow 62 = .ok (.getfield 13, 3) := by decide +kernel
theorem dX8_waterNow_65 : decode cX8_waterNow 65 = .ok (.aload_n 0, 1) := by decide +kernel
theorem dX8_waterNow_66 : decode cX8_waterNow 66 = .ok (.aload_n 0, 1) := by decide +kernel
theorem dX8_waterNow_67 : decode cX8_waterNow 67 = .ok (.getfield 72, 3) := by decide +kernel
theorem dX8_waterNow_70 : decode cX8_waterNow 70 = .ok (.iload_n 2, 1) := by decide +kernel
theorem dX8_waterNow_71 : decode cX8_waterNow 71 = .ok (.iaload, 1) := by decide +kernel
theorem dX8_waterNow_72 : decode cX8_waterNow 72 = .ok (.invokevirtual 151, 3) := by decide +kernel
theorem dX8_waterNow_75 : decode cX8_waterNow 75 = .ok (.iaload, 1) := by decide +kernel
theorem dX8_waterNow_76 : decode cX8_waterNow 76 = .ok (.if_icmp .gt 7, 3) := by decide +kernel
theorem dX8_waterNow_79 : decode cX8_waterNow 79 = .ok (.iconst 1, 1) := by decide +kernel
theorem dX8_waterNow_80 : decode cX8_waterNow 80 = .ok (.goto 4, 3) := by decide +kernel
theorem dX8_waterNow_83 : decode cX8_waterNow 83 = .ok (.iconst 0, 1) := by decide +kernel
theorem dX8_waterNow_84 : decode cX8_waterNow 84 = .ok (.istore_n 3, 1) := by decide +kernel
theorem dX8_waterNow_85 : decode cX8_waterNow 85 = .ok (.iload_n 1, 1) := by decide +kernel
theorem dX8_waterNow_86 : decode cX8_waterNow 86 = .ok (.iload_n 3, 1) := by decide +kernel
theorem dX8_waterNow_87 : decode cX8_waterNow 87 = .ok (.ifCond .eq 7, 3) := by decide +kernel
theorem dX8_waterNow_90 : decode cX8_waterNow 90 = .ok (.iconst 0, 1) := by decide +kernel
theorem dX8_waterNow_91 : decode cX8_waterNow 91 = .ok (.goto 22, 3) := by decide +kernel
theorem dX8_waterNow_94 : decode cX8_waterNow 94 = .ok (.bipush 10, 2) := by decide +kernel
theorem dX8_waterNow_96 : decode cX8_waterNow 96 = .ok (.aload_n 0, 1) := by decide +kernel
theorem dX8_waterNow_97 : decode cX8_waterNow 97 = .ok (.getfield 47, 3) := by decide +kernel
theorem dX8_waterNow_100 : decode cX8_waterNow 100 = .ok (.aload_n 0, 1) := by decide +kernel
theorem dX8_waterNow_101 : decode cX8_waterNow 101 = .ok (.getfield 53, 3) := by decide +kernel
theorem dX8_waterNow_104 : decode cX8_waterNow 104 = .ok (.aload_n 0, 1) := by decide +kernel
theorem dX8_waterNow_105 : decode cX8_waterNow 105 = .ok (.getfield 72, 3) := by decide +kernel
theorem dX8_waterNow_108 : decode cX8_waterNow 108 = .ok (.iload_n 2, 1) := by decide +kernel
theorem dX8_waterNow_109 : decode cX8_waterNow 109 = .ok (.iaload, 1) := by decide +kernel
theorem dX8_waterNow_110 : decode cX8_waterNow 110 = .ok (.iaload, 1) := by decide +kernel
theorem dX8_waterNow_111 : decode cX8_waterNow 111 = .ok (.iaload, 1) := by decide +kernel
theorem dX8_waterNow_112 : decode cX8_waterNow 112 = .ok (.imul, 1) := by decide +kernel
theorem dX8_waterNow_113 : decode cX8_waterNow 113 = .ok (.iadd, 1) := by decide +kernel
theorem dX8_waterNow_114 : decode cX8_waterNow 114 = .ok (.istore_n 1, 1) := by decide +kernel
theorem dX8_waterNow_115 : decode cX8_waterNow 115 = .ok (.iinc 2 1, 3) := by decide +kernel
theorem dX8_waterNow_118 : decode cX8_waterNow 118 = .ok (.goto (-114), 3) := by decide +kernel
theorem dX8_waterNow_121 : decode cX8_waterNow 121 = .ok (.iload_n 1, 1) := by decide +kernel
theorem dX8_waterNow_122 : decode cX8_waterNow 122 = .ok (.ireturn, 1) := by decide +kernel
set_option maxRecDepth 20000 in
theorem ggX8_goesOut_X8_kindAt : GoodIn wsX8_goesOut wsX8_kindAt := goodIn_r _ [9, 10, 11, 17, 18, 19, 20, 21, 22, 23, 24, 25, 26, 27, 28, 29, 30, 31, 32, 33, 34, 35, 36, 37, 38, 39, 40, 41, 42, 43, 44, 45, 46, 47, 48, 49, 50, 51, 52, 53] (by decide +kernel) (by decide +kernel)
set_option maxRecDepth 20000 in
theorem gX8_goesOut_X8_kindAt : GoodIn wsX8_goesOut (wsV RX8 151 RX8 yX8_kindAt wsX8_kindAt) := goodIn_app (goodIn_of _ (by decide +kernel)) ggX8_goesOut_X8_kindAt
set_option maxRecDepth 20000 in
theorem ggX8_goesOut_X8_dryerAt : GoodIn wsX8_goesOut wsX8_dryerAt := goodIn_r _ [15, 16, 3, 17, 18, 19, 20, 21, 22, 23, 24, 25, 26, 27, 28, 29, 30, 31, 32, 33, 34, 35, 36, 37, 38, 39, 40, 41, 42, 43, 44, 45, 46, 47, 48, 49, 50, 51, 52, 53] (by decide +kernel) (by decide +kernel)
set_option maxRecDepth 20000 in
theorem gX8_goesOut_X8_dryerAt : GoodIn wsX8_goesOut (wsV RX8 154 RX8 yX8_dryerAt wsX8_dryerAt) := goodIn_app (goodIn_of _ (by decide +kernel)) ggX8_goesOut_X8_dryerAt
theorem dX8_goesOut_0 : decode cX8_goesOut 0 = .ok (.aload_n 0, 1) := by decide +kernel
theorem dX8_goesOut_1 : decode cX8_goesOut 1 = .ok (.getfield 20, 3) := by decide +kernel
theorem dX8_goesOut_4 : decode cX8_goesOut 4 = .ok (.aload_n 0, 1) := by decide +kernel
theorem dX8_goesOut_5 : decode cX8_goesOut 5 = .ok (.iload_n 1, 1) := by decide +kernel
theorem dX8_goesOut_6 : decode cX8_goesOut 6 = .ok (.invokevirtual 151, 3) := by decide +kernel
theorem dX8_goesOut_9 : decode cX8_goesOut 9 = .ok (.iaload, 1) := by decide +kernel
theorem dX8_goesOut_10 : decode cX8_goesOut 10 = .ok (.istore 4, 2) := by decide +kernel
theorem dX8_goesOut_12 : decode cX8_goesOut 12 = .ok (.aload_n 0, 1) := by decide +kernel
theorem dX8_goesOut_13 : decode cX8_goesOut 13 = .ok (.getfield 84, 3) := by decide +kernel
theorem dX8_goesOut_16 : decode cX8_goesOut 16 = .ok (.bipush 7, 2) := by decide +kernel
theorem dX8_goesOut_18 : decode cX8_goesOut 18 = .ok (.iload_n 1, 1) := by decide +kernel
theorem dX8_goesOut_19 : decode cX8_goesOut 19 = .ok (.imul, 1) := by decide +kernel
theorem dX8_goesOut_20 : decode cX8_goesOut 20 = .ok (.iconst 2, 1) := by decide +kernel
theorem dX8_goesOut_21 : decode cX8_goesOut 21 = .ok (.iadd, 1) := by decide +kernel
theorem dX8_goesOut_22 : decode cX8_goesOut 22 = .ok (.iload_n 2, 1) := by decide +kernel
theorem dX8_goesOut_23 : decode cX8_goesOut 23 = .ok (.iastore, 1) := by decide +kernel
theorem dX8_goesOut_24 : decode cX8_goesOut 24 = .ok (.aload_n 0, 1) := by decide +kernel
theorem dX8_goesOut_25 : decode cX8_goesOut 25 = .ok (.getfield 84, 3) := by decide +kernel
theorem dX8_goesOut_28 : decode cX8_goesOut 28 = .ok (.bipush 7, 2) := by decide +kernel
theorem dX8_goesOut_30 : decode cX8_goesOut 30 = .ok (.iload_n 1, 1) := by decide +kernel
theorem dX8_goesOut_31 : decode cX8_goesOut 31 = .ok (.imul, 1) := by decide +kernel
theorem dX8_goesOut_32 : decode cX8_goesOut 32 = .ok (.iconst 3, 1) := by decide +kernel
theorem dX8_goesOut_33 : decode cX8_goesOut 33 = .ok (.iadd, 1) := by decide +kernel
theorem dX8_goesOut_34 : decode cX8_goesOut 34 = .ok (.iconst (-1), 1) := by decide +kernel
theorem dX8_goesOut_35 : decode cX8_goesOut 35 = .ok (.iastore, 1) := by decide +kernel
theorem dX8_goesOut_36 : decode cX8_goesOut 36 = .ok (.aload_n 0, 1) := by decide +kernel
theorem dX8_goesOut_37 : decode cX8_goesOut 37 = .ok (.getfield 84, 3) := by decide +kernel
theorem dX8_goesOut_40 : decode cX8_goesOut 40 = .ok (.bipush 7, 2) := by decide +kernel
theorem dX8_goesOut_42 : decode cX8_goesOut 42 = .ok (.iload_n 1, 1) := by decide +kernel
theorem dX8_goesOut_43 : decode cX8_goesOut 43 = .ok (.imul, 1) := by decide +kernel
theorem dX8_goesOut_44 : decode cX8_goesOut 44 = .ok (.iconst 4, 1) := by decide +kernel
theorem dX8_goesOut_45 : decode cX8_goesOut 45 = .ok (.iadd, 1) := by decide +kernel
theorem dX8_goesOut_46 : decode cX8_goesOut 46 = .ok (.iload_n 2, 1) := by decide +kernel
theorem dX8_goesOut_47 : decode cX8_goesOut 47 = .ok (.iastore, 1) := by decide +kernel
theorem dX8_goesOut_48 : decode cX8_goesOut 48 = .ok (.iload 4, 2) := by decide +kernel
theorem dX8_goesOut_50 : decode cX8_goesOut 50 = .ok (.ifCond .le 49, 3) := by decide +kernel
theorem dX8_goesOut_53 : decode cX8_goesOut 53 = .ok (.aload_n 0, 1) := by decide +kernel
theorem dX8_goesOut_54 : decode cX8_goesOut 54 = .ok (.iload_n 2, 1) := by decide +kernel
theorem dX8_goesOut_55 : decode cX8_goesOut 55 = .ok (.invokevirtual 154, 3) := by decide +kernel
theorem dX8_goesOut_58 : decode cX8_goesOut 58 = .ok (.istore 5, 2) := by decide +kernel
theorem dX8_goesOut_60 : decode cX8_goesOut 60 = .ok (.aload_n 0, 1) := by decide +kernel
theorem dX8_goesOut_61 : decode cX8_goesOut 61 = .ok (.getfield 75, 3) := by decide +kernel
theorem dX8_goesOut_64 : decode cX8_goesOut 64 = .ok (.iload 5, 2) := by decide +kernel
theorem dX8_goesOut_66 : decode cX8_goesOut 66 = .ok (.iload_n 2, 1) := by decide +kernel
theorem dX8_goesOut_67 : decode cX8_goesOut 67 = .ok (.iload 4, 2) := by decide +kernel
theorem dX8_goesOut_69 : decode cX8_goesOut 69 = .ok (.iadd, 1) := by decide +kernel
theorem dX8_goesOut_70 : decode cX8_goesOut 70 = .ok (.iastore, 1) := by decide +kernel
theorem dX8_goesOut_71 : decode cX8_goesOut 71 = .ok (.aload_n 0, 1) := by decide +kernel
theorem dX8_goesOut_72 : decode cX8_goesOut 72 = .ok (.getfield 84, 3) := by decide +kernel
theorem dX8_goesOut_75 : decode cX8_goesOut 75 = .ok (.bipush 7, 2) := by decide +kernel
theorem dX8_goesOut_77 : decode cX8_goesOut 77 = .ok (.iload_n 1, 1) := by decide +kernel
theorem dX8_goesOut_78 : decode cX8_goesOut 78 = .ok (.imul, 1) := by decide +kernel
theorem dX8_goesOut_79 : decode cX8_goesOut 79 = .ok (.iconst 3, 1) := by decide +kernel
theorem dX8_goesOut_80 : decode cX8_goesOut 80 = .ok (.iadd, 1) := by decide +kernel
theorem dX8_goesOut_81 : decode cX8_goesOut 81 = .ok (.iload 5, 2) := by decide +kernel
theorem dX8_goesOut_83 : decode cX8_goesOut 83 = .ok (.iastore, 1) := by decide +kernel
theorem dX8_goesOut_84 : decode cX8_goesOut 84 = .ok (.aload_n 0, 1) := by decide +kernel
theorem dX8_goesOut_85 : decode cX8_goesOut 85 = .ok (.getfield 84, 3) := by decide +kernel
theorem dX8_goesOut_88 : decode cX8_goesOut 88 = .ok (.bipush 7, 2) := by decide +kernel
theorem dX8_goesOut_90 : decode cX8_goesOut 90 = .ok (.iload_n 1, 1) := by decide +kernel
theorem dX8_goesOut_91 : decode cX8_goesOut 91 = .ok (.imul, 1) := by decide +kernel
theorem dX8_goesOut_92 : decode cX8_goesOut 92 = .ok (.iconst 4, 1) := by decide +kernel
theorem dX8_goesOut_93 : decode cX8_goesOut 93 = .ok (.iadd, 1) := by decide +kernel
theorem dX8_goesOut_94 : decode cX8_goesOut 94 = .ok (.iload_n 2, 1) := by decide +kernel
theorem dX8_goesOut_95 : decode cX8_goesOut 95 = .ok (.iload 4, 2) := by decide +kernel
theorem dX8_goesOut_97 : decode cX8_goesOut 97 = .ok (.iadd, 1) := by decide +kernel
theorem dX8_goesOut_98 : decode cX8_goesOut 98 = .ok (.iastore, 1) := by decide +kernel
theorem dX8_goesOut_99 : decode cX8_goesOut 99 = .ok (.aload_n 0, 1) := by decide +kernel
theorem dX8_goesOut_100 : decode cX8_goesOut 100 = .ok (.getfield 87, 3) := by decide +kernel
theorem dX8_goesOut_103 : decode cX8_goesOut 103 = .ok (.iload_n 3, 1) := by decide +kernel
theorem dX8_goesOut_104 : decode cX8_goesOut 104 = .ok (.iload_n 1, 1) := by decide +kernel
theorem dX8_goesOut_105 : decode cX8_goesOut 105 = .ok (.iastore, 1) := by decide +kernel
theorem dX8_goesOut_106 : decode cX8_goesOut 106 = .ok (.return_, 1) := by decide +kernel
set_option maxRecDepth 20000 in
theorem ggX8_irons_X8_kindAt : GoodIn wsX8_irons wsX8_kindAt := goodIn_r _ [11, 12, 13, 14, 15, 16, 17, 18, 19, 20, 21, 22, 23, 24, 25, 26, 27, 28, 29, 30, 31, 32, 33, 34, 35, 36, 37, 38, 39, 40, 41, 42, 43, 44, 45, 46, 47, 48, 49, 50] (by decide +kernel) (by decide +kernel)
set_option maxRecDepth 20000 in
theorem gX8_irons_X8_kindAt : GoodIn wsX8_irons (wsV RX8 151 RX8 yX8_kindAt wsX8_kindAt) := goodIn_app (goodIn_of _ (by decide +kernel)) ggX8_irons_X8_kindAt
theorem dX8_irons_0 : decode cX8_irons 0 = .ok (.iconst 0, 1) := by decide +kernel
theorem dX8_irons_1 : decode cX8_irons 1 = .ok (.istore_n 1, 1) := by decide +kernel
theorem dX8_irons_2 : decode cX8_irons 2 = .ok (.iload_n 1, 1) := by decide +kernel
theorem dX8_irons_3 : decode cX8_irons 3 = .ok (.aload_n 0, 1) := by decide +kernel
theorem dX8_irons_4 : decode cX8_irons 4 = .ok (.getfield 63, 3) := by decide +kernel
theorem dX8_irons_7 : decode cX8_irons 7 = .ok (.if_icmp .ge 16, 3) := by decide +kernel
theorem dX8_irons_10 : decode cX8_irons 10 = .ok (.aload_n 0, 1) := by decide +kernel
theorem dX8_irons_11 : decode cX8_irons 11 = .ok (.getfield 78, 3) := by decide +kernel
theorem dX8_irons_14 : decode cX8_irons 14 = .ok (.iload_n 1, 1) := by decide +kernel
theorem dX8_irons_15 : decode cX8_irons 15 = .ok (.iconst 0, 1) := by decide +kernel
theorem dX8_irons_16 : decode cX8_irons 16 = .ok (.iastore, 1) := by decide +kernel
theorem dX8_irons_17 : decode cX8_irons 17 = .ok (.iinc 1 1, 3) := by decide +kernel
theorem dX8_irons_20 : decode cX8_irons 20 = .ok (.goto (-18), 3) := by decide +kernel
theorem dX8_irons_23 : decode cX8_irons 23 = .ok (.iconst 1, 1) := by decide +kernel
theorem dX8_irons_24 : decode cX8_irons 24 = .ok (.istore_n 1, 1) := by decide +kernel
theorem dX8_irons_25 : decode cX8_irons 25 = .ok (.iload_n 1, 1) := by decide +kernel
theorem dX8_irons_26 : decode cX8_irons 26 = .ok (.aload_n 0, 1) := by decide +kernel
theorem dX8_irons_27 : decode cX8_irons 27 = .ok (.getfield 157, 3) := by decide +kernel
theorem dX8_irons_30 : decode cX8_irons 30 = .ok (.if_icmp .ge 81, 3) := by decide +kernel
theorem dX8_irons_33 : decode cX8_irons 33 = .ok (.aload_n 0, 1) := by decide +kernel
theorem dX8_irons_34 : decode cX8_irons 34 = .ok (.getfield 87, 3) := by decide +kernel
theorem dX8_irons_37 : decode cX8_irons 37 = .ok (.iload_n 1, 1) := by decide +kernel
theorem dX8_irons_38 : decode cX8_irons 38 = .ok (.iaload, 1) := by decide +kernel
theorem dX8_irons_39 : decode cX8_irons 39 = .ok (.istore_n 2, 1) := by decide +kernel
theorem dX8_irons_40 : decode cX8_irons 40 = .ok (.iload_n 1, 1) := by decide +kernel
theorem dX8_irons_41 : decode cX8_irons 41 = .ok (.istore_n 3, 1) := by decide +kernel
theorem dX8_irons_42 : decode cX8_irons 42 = .ok (.iload_n 3, 1) := by decide +kernel
theorem dX8_irons_43 : decode cX8_irons 43 = .ok (.ifCond .le 55, 3) := by decide +kernel
theorem dX8_irons_46 : decode cX8_irons 46 = .ok (.aload_n 0, 1) := by decide +kernel
theorem dX8_irons_47 : decode cX8_irons 47 = .ok (.getfield 84, 3) := by decide +kernel
theorem dX8_irons_50 : decode cX8_irons 50 = .ok (.bipush 7, 2) := by decide +kernel
theorem dX8_irons_52 : decode cX8_irons 52 = .ok (.aload_n 0, 1) := by decide +kernel
theorem dX8_irons_53 : decode cX8_irons 53 = .ok (.getfield 87, 3) := by decide +kernel
theorem dX8_irons_56 : decode cX8_irons 56 = .ok (.iload_n 3, 1) := by decide +kernel
theorem dX8_irons_57 : decode cX8_irons 57 = .ok (.iconst 1, 1) := by decide +kernel
theorem dX8_irons_58 : decode cX8_irons 58 = .ok (.isub, 1) := by decide +kernel
theorem dX8_irons_59 : decode cX8_irons 59 = .ok (.iaload, 1) := by decide +kernel
theorem dX8_irons_60 : decode cX8_irons 60 = .ok (.imul, 1) := by decide +kernel
theorem dX8_irons_61 : decode cX8_irons 61 = .ok (.iconst 4, 1) := by decide +kernel
theorem dX8_irons_62 : decode cX8_irons 62 = .ok (.iadd, 1) := by decide +kernel
theorem dX8_irons_63 : decode cX8_irons 63 = .ok (.iaload, 1) := by decide +kernel
theorem dX8_irons_64 : decode cX8_irons 64 = .ok (.aload_n 0, 1) := by decide +kernel
theorem dX8_irons_65 : decode cX8_irons 65 = .ok (.getfield 84, 3) := by decide +kernel
theorem dX8_irons_68 : decode cX8_irons 68 = .ok (.bipush 7, 2) := by decide +kernel
theorem dX8_irons_70 : decode cX8_irons 70 = .ok (.iload_n 2, 1) := by decide +kernel
theorem dX8_irons_71 : decode cX8_irons 71 = .ok (.imul, 1) := by decide +kernel
theorem dX8_irons_72 : decode cX8_irons 72 = .ok (.iconst 4, 1) := by decide +kernel
theorem dX8_irons_73 : decode cX8_irons 73 = .ok (.iadd, 1) := by decide +kernel
theorem dX8_irons_74 : decode cX8_irons 74 = .ok (.iaload, 1) := by decide +kernel
theorem dX8_irons_75 : decode cX8_irons 75 = .ok (.if_icmp .le 23, 3) := by decide +kernel
theorem dX8_irons_78 : decode cX8_irons 78 = .ok (.aload_n 0, 1) := by decide +kernel
theorem dX8_irons_79 : decode cX8_irons 79 = .ok (.getfield 87, 3) := by decide +kernel
theorem dX8_irons_82 : decode cX8_irons 82 = .ok (.iload_n 3, 1) := by decide +kernel
theorem dX8_irons_83 : decode cX8_irons 83 = .ok (.aload_n 0, 1) := by decide +kernel
theorem dX8_irons_84 : decode cX8_irons 84 = .ok (.getfield 87, 3) := by decide +kernel
theorem dX8_irons_87 : decode cX8_irons 87 = .ok (.iload_n 3, 1) := by decide +kernel
theorem dX8_irons_88 : decode cX8_irons 88 = .ok (.iconst 1, 1) := by decide +kernel
theorem dX8_irons_89 : decode cX8_irons 89 = .ok (.isub, 1) := by decide +kernel
theorem dX8_irons_90 : decode cX8_irons 90 = .ok (.iaload, 1) := by decide +kernel
theorem dX8_irons_91 : decode cX8_irons 91 = .ok (.iastore, 1) := by decide +kernel
theorem dX8_irons_92 : decode cX8_irons 92 = .ok (.iinc 3 (-1), 3) := by decide +kernel
theorem dX8_irons_95 : decode cX8_irons 95 = .ok (.goto (-53), 3) := by decide +kernel
theorem dX8_irons_98 : decode cX8_irons 98 = .ok (.aload_n 0, 1) := by decide +kernel
theorem dX8_irons_99 : decode cX8_irons 99 = .ok (.getfield 87, 3) := by decide +kernel
theorem dX8_irons_102 : decode cX8_irons 102 = .ok (.iload_n 3, 1) := by decide +kernel
theorem dX8_irons_103 : decode cX8_irons 103 = .ok (.iload_n 2, 1) := by decide +kernel
theorem dX8_irons_104 : decode cX8_irons 104 = .ok (.iastore, 1) := by decide +kernel
theorem dX8_irons_105 : decode cX8_irons 105 = .ok (.iinc 1 1, 3) := by decide +kernel
theorem dX8_irons_108 : decode cX8_irons 108 = .ok (.goto (-83), 3) := by decide +kernel
theorem dX8_irons_111 : decode cX8_irons 111 = .ok (.iconst 0, 1) := by decide +kernel
theorem dX8_irons_112 : decode cX8_irons 112 = .ok (.istore_n 1, 1) := by decide +kernel
theorem dX8_irons_113 : decode cX8_irons 113 = .ok (.iload_n 1, 1) := by decide +kernel
theorem dX8_irons_114 : decode cX8_irons 114 = .ok (.aload_n 0, 1) := by decide +kernel
theorem dX8_irons_115 : decode cX8_irons 115 = .ok (.getfield 157, 3) := by decide +kernel
theorem dX8_irons_118 : decode cX8_irons 118 = .ok (.if_icmp .ge 184, 3) := by decide +kernel
theorem dX8_irons_121 : decode cX8_irons 121 = .ok (.bipush 7, 2) := by decide +kernel
theorem dX8_irons_123 : decode cX8_irons 123 = .ok (.aload_n 0, 1) := by decide +kernel
theorem dX8_irons_124 : decode cX8_irons 124 = .ok (.getfield 87, 3) := by decide +kernel
theorem dX8_irons_127 : decode cX8_irons 127 = .ok (.iload_n 1, 1) := by decide +kernel
theorem dX8_irons_128 : decode cX8_irons 128 = .ok (.iaload, 1) := by decide +kernel
theorem dX8_irons_129 : decode cX8_irons 129 = .ok (.imul, 1) := by decide +kernel
theorem dX8_irons_130 : decode cX8_irons 130 = .ok (.istore_n 2, 1) := by decide +kernel
theorem dX8_irons_131 : decode cX8_irons 131 = .ok (.aload_n 0, 1) := by decide +kernel
theorem dX8_irons_132 : decode cX8_irons 132 = .ok (.getfield 23, 3) := by decide +kernel
theorem dX8_irons_135 : decode cX8_irons 135 = .ok (.aload_n 0, 1) := by decide +kernel
theorem dX8_irons_136 : decode cX8_irons 136 = .ok (.aload_n 0, 1) := by decide +kernel
theorem dX8_irons_137 : decode cX8_irons 137 = .ok (.getfield 87, 3) := by decide +kernel
theorem dX8_irons_140 : decode cX8_irons 140 = .ok (.iload_n 1, 1) := by decide +kernel
theorem dX8_irons_141 : decode cX8_irons 141 = .ok (.iaload, 1) := by decide +kernel
theorem dX8_irons_142 : decode cX8_irons 142 = .ok (.invokevirtual 151, 3) := by decide +kernel
theorem dX8_irons_145 : decode cX8_irons 145 = .ok (.iaload, 1) := by decide +kernel
theorem dX8_irons_146 : decode cX8_irons 146 = .ok (.istore_n 3, 1) := by decide +kernel
theorem dX8_irons_147 : decode cX8_irons 147 = .ok (.aload_n 0, 1) := by decide +kernel
theorem dX8_irons_148 : decode cX8_irons 148 = .ok (.getfield 84, 3) := by decide +kernel
theorem dX8_irons_151 : decode cX8_irons 151 = .ok (.iload_n 2, 1) := by decide +kernel
theorem dX8_irons_152 : decode cX8_irons 152 = .ok (.iconst 5, 1) := by decide +kernel
theorem dX8_irons_153 : decode cX8_irons 153 = .ok (.iadd, 1) := by decide +kernel
theorem dX8_irons_154 : decode cX8_irons 154 = .ok (.iconst (-1), 1) := by decide +kernel
theorem dX8_irons_155 : decode cX8_irons 155 = .ok (.iastore, 1) := by decide +kernel
theorem dX8_irons_156 : decode cX8_irons 156 = .ok (.aload_n 0, 1) := by decide +kernel
theorem dX8_irons_157 : decode cX8_irons 157 = .ok (.getfield 84, 3) := by decide +kernel
theorem dX8_irons_160 : decode cX8_irons 160 = .ok (.iload_n 2, 1) := by decide +kernel
theorem dX8_irons_161 : decode cX8_irons 161 = .ok (.bipush 6, 2) := by decide +kernel
theorem dX8_irons_163 : decode cX8_irons 163 = .ok (.iadd, 1) := by decide +kernel
theorem dX8_irons_164 : decode cX8_irons 164 = .ok (.aload_n 0, 1) := by decide +kernel
theorem dX8_irons_165 : decode cX8_irons 165 = .ok (.getfield 84, 3) := by decide +kernel
theorem dX8_irons_168 : decode cX8_irons 168 = .ok (.iload_n 2, 1) := by decide +kernel
theorem dX8_irons_169 : decode cX8_irons 169 = .ok (.iconst 4, 1) := by decide +kernel
theorem dX8_irons_170 : decode cX8_irons 170 = .ok (.iadd, 1) := by decide +kernel
theorem dX8_irons_171 : decode cX8_irons 171 = .ok (.iaload, 1) := by decide +kernel
theorem dX8_irons_172 : decode cX8_irons 172 = .ok (.iastore, 1) := by decide +kernel
theorem dX8_irons_173 : decode cX8_irons 173 = .ok (.iload_n 3, 1) := by decide +kernel
theorem dX8_irons_174 : decode cX8_irons 174 = .ok (.ifCond .le 122, 3) := by decide +kernel
theorem dX8_irons_177 : decode cX8_irons 177 = .ok (.iconst 0, 1) := by decide +kernel
theorem dX8_irons_178 : decode cX8_irons 178 = .ok (.istore 4, 2) := by decide +kernel
theorem dX8_irons_180 : decode cX8_irons 180 = .ok (.iconst 1, 1) := by decide +kernel
theorem dX8_irons_181 : decode cX8_irons 181 = .ok (.istore 5, 2) := by decide +kernel
theorem dX8_irons_183 : decode cX8_irons 183 = .ok (.iload 5, 2) := by decide +kernel
theorem dX8_irons_185 : decode cX8_irons 185 = .ok (.aload_n 0, 1) := by decide +kernel
theorem dX8_irons_186 : decode cX8_irons 186 = .ok (.getfield 63, 3) := by decide +kernel
theorem dX8_irons_189 : decode cX8_irons 189 = .ok (.if_icmp .ge 35, 3) := by decide +kernel
theorem dX8_irons_192 : decode cX8_irons 192 = .ok (.aload_n 0, 1) := by decide +kernel
theorem dX8_irons_193 : decode cX8_irons 193 = .ok (.getfield 78, 3) := by decide +kernel
theorem dX8_irons_196 : decode cX8_irons 196 = .ok (.iload 5, 2) := by decide +kernel
theorem dX8_irons_198 : decode cX8_irons 198 = .ok (.iaload, 1) := by decide +kernel
theorem dX8_irons_199 : decode cX8_irons 199 = .ok (.aload_n 0, 1) := by decide +kernel
theorem dX8_irons_200 : decode cX8_irons 200 = .ok (.getfield 78, 3) := by decide +kernel
theorem dX8_irons_203 : decode cX8_irons 203 = .ok (.iload 4, 2) := by decide +kernel
theorem dX8_irons_205 : decode cX8_irons 205 = .ok (.iaload, 1) := by decide +kernel
theorem dX8_irons_206 : decode cX8_irons 206 = .ok (.if_icmp .ge 8, 3) := by decide +kernel
theorem dX8_irons_209 : decode cX8_irons 209 = .ok (.iload 5, 2) := by decide +kernel
theorem dX8_irons_211 : decode cX8_irons 211 = .ok (.goto 5, 3) := by decide +kernel
theorem dX8_irons_214 : decode cX8_irons 214 = .ok (.iload 4, 2) := by decide +kernel
theorem dX8_irons_216 : decode cX8_irons 216 = .ok (.istore 4, 2) := by decide +kernel
theorem dX8_irons_218 : decode cX8_irons 218 = .ok (.iinc 5 1, 3) := by decide +kernel
theorem dX8_irons_221 : decode cX8_irons 221 = .ok (.goto (-38), 3) := by decide +kernel
theorem dX8_irons_224 : decode cX8_irons 224 = .ok (.aload_n 0, 1) := by decide +kernel
theorem dX8_irons_225 : decode cX8_irons 225 = .ok (.getfield 78, 3) := by decide +kernel
theorem dX8_irons_228 : decode cX8_irons 228 = .ok (.iload 4, 2) := by decide +kernel
theorem dX8_irons_230 : decode cX8_irons 230 = .ok (.iaload, 1) := by decide +kernel
theorem dX8_irons_231 : decode cX8_irons 231 = .ok (.aload_n 0, 1) := by decide +kernel
theorem dX8_irons_232 : decode cX8_irons 232 = .ok (.getfield 84, 3) := by decide +kernel
theorem dX8_irons_235 : decode cX8_irons 235 = .ok (.iload_n 2, 1) := by decide +kernel
theorem dX8_irons_236 : decode cX8_irons 236 = .ok (.iconst 4, 1) := by decide +kernel
theorem dX8_irons_237 : decode cX8_irons 237 = .ok (.iadd, 1) := by decide +kernel
theorem dX8_irons_238 : decode cX8_irons 238 = .ok (.iaload, 1) := by decide +kernel
theorem dX8_irons_239 : decode cX8_irons 239 = .ok (.if_icmp .le 13, 3) := by decide +kernel
theorem dX8_irons_242 : decode cX8_irons 242 = .ok (.aload_n 0, 1) := by decide +kernel
theorem dX8_irons_243 : decode cX8_irons 243 = .ok (.getfield 78, 3) := by decide +kernel
theorem dX8_irons_246 : decode cX8_irons 246 = .ok (.iload 4, 2) := by decide +kernel
theorem dX8_irons_248 : decode cX8_irons 248 = .ok (.iaload, 1) := by decide +kernel
theorem dX8_irons_249 : decode cX8_irons 249 = .ok (.goto 11, 3) := by decide +kernel
theorem dX8_irons_252 : decode cX8_irons 252 = .ok (.aload_n 0, 1) := by decide +kernel
theorem dX8_irons_253 : decode cX8_irons 253 = .ok (.getfield 84, 3) := by decide +kernel
theorem dX8_irons_256 : decode cX8_irons 256 = .ok (.iload_n 2, 1) := by decide +kernel
theorem dX8_irons_257 : decode cX8_irons 257 = .ok (.iconst 4, 1) := by decide +kernel
theorem dX8_irons_258 : decode cX8_irons 258 = .ok (.iadd, 1) := by decide +kernel
theorem dX8_irons_259 : decode cX8_irons 259 = .ok (.iaload, 1) := by decide +kernel
theorem dX8_irons_260 : decode cX8_irons 260 = .ok (.istore 5, 2) := by decide +kernel
theorem dX8_irons_262 : decode cX8_irons 262 = .ok (.aload_n 0, 1) := by decide +kernel
theorem dX8_irons_263 : decode cX8_irons 263 = .ok (.getfield 78, 3) := by decide +kernel
theorem dX8_irons_266 : decode cX8_irons 266 = .ok (.iload 4, 2) := by decide +kernel
theorem dX8_irons_268 : decode cX8_irons 268 = .ok (.iload 5, 2) := by decide +kernel
theorem dX8_irons_270 : decode cX8_irons 270 = .ok (.iload_n 3, 1) := by decide +kernel
theorem dX8_irons_271 : decode cX8_irons 271 = .ok (.iadd, 1) := by decide +kernel
theorem dX8_irons_272 : decode cX8_irons 272 = .ok (.iastore, 1) := by decide +kernel
theorem dX8_irons_273 : decode cX8_irons 273 = .ok (.aload_n 0, 1) := by decide +kernel
theorem dX8_irons_274 : decode cX8_irons 274 = .ok (.getfield 84, 3) := by decide +kernel
theorem dX8_irons_277 : decode cX8_irons 277 = .ok (.iload_n 2, 1) := by decide +kernel
theorem dX8_irons_278 : decode cX8_irons 278 = .ok (.iconst 5, 1) := by decide +kernel
theorem dX8_irons_279 : decode cX8_irons 279 = .ok (.iadd, 1) := by decide +kernel
theorem dX8_irons_280 : decode cX8_irons 280 = .ok (.iload 4, 2) := by decide +kernel
theorem dX8_irons_282 : decode cX8_irons 282 = .ok (.iastore, 1) := by decide +kernel
theorem dX8_irons_283 : decode cX8_irons 283 = .ok (.aload_n 0, 1) := by decide +kernel
theorem dX8_irons_284 : decode cX8_irons 284 = .ok (.getfield 84, 3) := by decide +kernel
theorem dX8_irons_287 : decode cX8_irons 287 = .ok (.iload_n 2, 1) := by decide +kernel
theorem dX8_irons_288 : decode cX8_irons 288 = .ok (.bipush 6, 2) := by decide +kernel
theorem dX8_irons_290 : decode cX8_irons 290 = .ok (.iadd, 1) := by decide +kernel
theorem dX8_irons_291 : decode cX8_irons 291 = .ok (.iload 5, 2) := by decide +kernel
theorem dX8_irons_293 : decode cX8_irons 293 = .ok (.iload_n 3, 1) := by decide +kernel
theorem dX8_irons_294 : decode cX8_irons 294 = .ok (.iadd, 1) := by decide +kernel
theorem dX8_irons_295 : decode cX8_irons 295 = .ok (.iastore, 1) := by decide +kernel
theorem dX8_irons_296 : decode cX8_irons 296 = .ok (.iinc 1 1, 3) := by decide +kernel
theorem dX8_irons_299 : decode cX8_irons 299 = .ok (.goto (-186), 3) := by decide +kernel
theorem dX8_irons_302 : decode cX8_irons 302 = .ok (.return_, 1) := by decide +kernel
set_option maxRecDepth 20000 in
theorem ggX8_wash_X8_betweenBatches : GoodIn wsX8_wash wsX8_betweenBatches := goodIn_r _ [21, 22, 23, 24, 25, 20, 26, 27, 28, 29, 59, 60, 61, 62, 63, 64, 65, 66, 67, 68, 69, 70, 71, 72, 73, 74, 75, 76, 77, 78, 79, 80, 81, 82, 83, 84, 85, 86, 87, 88, 89, 90, 91, 92, 93, 94, 95] (by decide +kernel) (by decide +kernel)
set_option maxRecDepth 20000 in
theorem gX8_wash_X8_betweenBatches : GoodIn wsX8_wash (wsV RX8 143 RX8 yX8_betweenBatches wsX8_betweenBatches) := goodIn_app (goodIn_of _ (by decide +kernel)) ggX8_wash_X8_betweenBatches
set_option maxRecDepth 20000 in
theorem ggX8_wash_X8_kindAt : GoodIn wsX8_wash wsX8_kindAt := goodIn_r _ [33, 22, 2, 59, 60, 61, 62, 63, 64, 65, 66, 67, 68, 69, 70, 71, 72, 73, 74, 75, 76, 77, 78, 79, 80, 81, 82, 83, 84, 85, 86, 87, 88, 89, 90, 91, 92, 93, 94, 95] (by decide +kernel) (by decide +kernel)
set_option maxRecDepth 20000 in
theorem gX8_wash_X8_kindAt : GoodIn wsX8_wash (wsV RX8 151 RX8 yX8_kindAt wsX8_kindAt) := goodIn_app (goodIn_of _ (by decide +kernel)) ggX8_wash_X8_kindAt
set_option maxRecDepth 20000 in
theorem ggX8_wash_X8_dryerAt : GoodIn wsX8_wash wsX8_dryerAt := goodIn_r _ [37, 38, 5, 59, 60, 61, 62, 63, 64, 65, 66, 67, 68, 69, 70, 71, 72, 73, 74, 75, 76, 77, 78, 79, 80, 81, 82, 83, 84, 85, 86, 87, 88, 89, 90, 91, 92, 93, 94, 95] (by decide +kernel) (by decide +kernel)
set_option maxRecDepth 20000 in
theorem gX8_wash_X8_dryerAt : GoodIn wsX8_wash (wsV RX8 154 RX8 yX8_dryerAt wsX8_dryerAt) := goodIn_app (goodIn_of _ (by decide +kernel)) ggX8_wash_X8_dryerAt
set_option maxRecDepth 20000 in
theorem ggX8_wash_X8_goesOut : GoodIn wsX8_wash wsX8_goesOut := goodIn_r _ [42, 8, 9, 5, 43, 30, 31, 32, 20, 33, 22, 2, 34, 35, 36, 37, 38, 59, 60, 61, 62, 63, 64, 65, 66, 67, 68, 69, 70, 71, 72, 73, 74, 75, 76, 77, 78, 79, 80, 81, 82, 83, 84, 85, 86, 87, 88, 89, 90, 91, 92, 93, 94, 95] (by decide +kernel) (by decide +kernel)
set_option maxRecDepth 20000 in
theorem gX8_wash_X8_goesOut : GoodIn wsX8_wash (wsV RX8 160 RX8 yX8_goesOut wsX8_goesOut) := goodIn_app (goodIn_of _ (by decide +kernel)) ggX8_wash_X8_goesOut
set_option maxRecDepth 20000 in
theorem ggX8_wash_X8_waterNow : GoodIn wsX8_wash wsX8_waterNow := goodIn_r _ [47, 7, 4, 27, 11, 2, 30, 31, 32, 20, 33, 22, 59, 60, 61, 62, 63, 64, 65, 66, 67, 68, 69, 70, 71, 72, 73, 74, 75, 76, 77, 78, 79, 80, 81, 82, 83, 84, 85, 86, 87, 88, 89, 90, 91, 92, 93, 94, 95] (by decide +kernel) (by decide +kernel)
set_option maxRecDepth 20000 in
theorem gX8_wash_X8_waterNow : GoodIn wsX8_wash (wsV RX8 164 RX8 yX8_waterNow wsX8_waterNow) := goodIn_app (goodIn_of _ (by decide +kernel)) ggX8_wash_X8_waterNow
set_option maxRecDepth 20000 in
theorem ggX8_wash_X8_irons : GoodIn wsX8_wash wsX8_irons := goodIn_r _ [51, 52, 53, 6, 43, 9, 54, 30, 31, 32, 20, 33, 22, 2, 59, 60, 61, 62, 63, 64, 65, 66, 67, 68, 69, 70, 71, 72, 73, 74, 75, 76, 77, 78, 79, 80, 81, 82, 83, 84, 85, 86, 87, 88, 89, 90, 91, 92, 93, 94, 95] (by decide +kernel) (by decide +kernel)
set_option maxRecDepth 20000 in
theorem gX8_wash_X8_irons : GoodIn wsX8_wash (wsV RX8 167 RX8 yX8_irons wsX8_irons) := goodIn_app (goodIn_of _ (by decide +kernel)) ggX8_wash_X8_irons
set_option maxRecDepth 20000 in
theorem ggX8_wash_X8_empties : GoodIn wsX8_wash wsX8_empties := goodIn_r _ [58, 1, 2, 17, 18, 19, 20, 21, 22, 23, 24, 25, 26, 27, 28, 29, 59, 60, 61, 62, 63, 64, 65, 66, 67, 68, 69, 70, 71, 72, 73, 74, 75, 76, 77, 78, 79, 80, 81, 82, 83, 84, 85, 86, 87, 88, 89, 90, 91, 92, 93, 94, 95] (by decide +kernel) (by decide +kernel)
set_option maxRecDepth 20000 in
theorem gX8_wash_X8_empties : GoodIn wsX8_wash (wsV RX8 147 RX8 yX8_empties wsX8_empties) := goodIn_app (goodIn_of _ (by decide +kernel)) ggX8_wash_X8_empties
theorem dX8_wash_0 : decode cX8_wash 0 = .ok (.aload_n 0, 1) := by decide +kernel
theorem dX8_wash_1 : decode cX8_wash 1 = .ok (.getfield 133, 3) := by decide +kernel
theorem dX8_wash_4 : decode cX8_wash 4 = .ok (.ifCond .ne 6, 3) := by decide +kernel
theorem dX8_wash_7 : decode cX8_wash 7 = .ok (.bipush (-4), 2) := by decide +kernel
theorem dX8_wash_9 : decode cX8_wash 9 = .ok (.ireturn, 1) := by decide +kernel
theorem dX8_wash_10 : decode cX8_wash 10 = .ok (.iconst 0, 1) := by decide +kernel
theorem dX8_wash_11 : decode cX8_wash 11 = .ok (.istore_n 1, 1) := by decide +kernel
theorem dX8_wash_12 : decode cX8_wash 12 = .ok (.iconst 0, 1) := by decide +kernel
theorem dX8_wash_13 : decode cX8_wash 13 = .ok (.istore_n 2, 1) := by decide +kernel
theorem dX8_wash_14 : decode cX8_wash 14 = .ok (.iload_n 2, 1) := by decide +kernel
theorem dX8_wash_15 : decode cX8_wash 15 = .ok (.aload_n 0, 1) := by decide +kernel
theorem dX8_wash_16 : decode cX8_wash 16 = .ok (.getfield 133, 3) := by decide +kernel
theorem dX8_wash_19 : decode cX8_wash 19 = .ok (.if_icmp .ge 71, 3) := by decide +kernel
theorem dX8_wash_22 : decode cX8_wash 22 = .ok (.iload_n 2, 1) := by decide +kernel
theorem dX8_wash_23 : decode cX8_wash 23 = .ok (.ifCond .ne 7, 3) := by decide +kernel
theorem dX8_wash_26 : decode cX8_wash 26 = .ok (.iconst 0, 1) := by decide +kernel
theorem dX8_wash_27 : decode cX8_wash 27 = .ok (.goto 21, 3) := by decide +kernel
theorem dX8_wash_30 : decode cX8_wash 30 = .ok (.aload_n 0, 1) := by decide +kernel
theorem dX8_wash_31 : decode cX8_wash 31 = .ok (.aload_n 0, 1) := by decide +kernel
theorem dX8_wash_32 : decode cX8_wash 32 = .ok (.getfield 53, 3) := by decide +kernel
theorem dX8_wash_35 : decode cX8_wash 35 = .ok (.iload_n 2, 1) := by decide +kernel
theorem dX8_wash_36 : decode cX8_wash 36 = .ok (.iconst 1, 1) := by decide +kernel
theorem dX8_wash_37 : decode cX8_wash 37 = .ok (.isub, 1) := by decide +kernel
theorem dX8_wash_38 : decode cX8_wash 38 = .ok (.iaload, 1) := by decide +kernel
theorem dX8_wash_39 : decode cX8_wash 39 = .ok (.aload_n 0, 1) := by decide +kernel
theorem dX8_wash_40 : decode cX8_wash 40 = .ok (.getfield 53, 3) := by decide +kernel
theorem dX8_wash_43 : decode cX8_wash 43 = .ok (.iload_n 2, 1) := by decide +kernel
theorem dX8_wash_44 : decode cX8_wash 44 = .ok (.iaload, 1) := by decide +kernel
theorem dX8_wash_45 : decode cX8_wash 45 = .ok (.invokevirtual 143, 3) := by decide +kernel
theorem dX8_wash_48 : decode cX8_wash 48 = .ok (.istore_n 3, 1) := by decide +kernel
theorem dX8_wash_49 : decode cX8_wash 49 = .ok (.iconst 0, 1) := by decide +kernel
theorem dX8_wash_50 : decode cX8_wash 50 = .ok (.istore 4, 2) := by decide +kernel
theorem dX8_wash_52 : decode cX8_wash 52 = .ok (.iload 4, 2) := by decide +kernel
theorem dX8_wash_54 : decode cX8_wash 54 = .ok (.iload_n 3, 1) := by decide +kernel
theorem dX8_wash_55 : decode cX8_wash 55 = .ok (.if_icmp .ge 19, 3) := by decide +kernel
theorem dX8_wash_58 : decode cX8_wash 58 = .ok (.aload_n 0, 1) := by decide +kernel
theorem dX8_wash_59 : decode cX8_wash 59 = .ok (.getfield 69, 3) := by decide +kernel
theorem dX8_wash_62 : decode cX8_wash 62 = .ok (.iload_n 1, 1) := by decide +kernel
theorem dX8_wash_63 : decode cX8_wash 63 = .ok (.iconst (-1), 1) := by decide +kernel
theorem dX8_wash_64 : decode cX8_wash 64 = .ok (.iastore, 1) := by decide +kernel
theorem dX8_wash_65 : decode cX8_wash 65 = .ok (.iinc 1 1, 3) := by decide +kernel
theorem dX8_wash_68 : decode cX8_wash 68 = .ok (.iinc 4 1, 3) := by decide +kernel
theorem dX8_wash_71 : decode cX8_wash 71 = .ok (.goto (-19), 3) := by decide +kernel
theorem dX8_wash_74 : decode cX8_wash 74 = .ok (.aload_n 0, 1) := by decide +kernel
theorem dX8_wash_75 : decode cX8_wash 75 = .ok (.getfield 69, 3) := by decide +kernel
theorem dX8_wash_78 : decode cX8_wash 78 = .ok (.iload_n 1, 1) := by decide +kernel
theorem dX8_wash_79 : decode cX8_wash 79 = .ok (.iload_n 2, 1) := by decide +kernel
theorem dX8_wash_80 : decode cX8_wash 80 = .ok (.iastore, 1) := by decide +kernel
theorem dX8_wash_81 : decode cX8_wash 81 = .ok (.iinc 1 1, 3) := by decide +kernel
theorem dX8_wash_84 : decode cX8_wash 84 = .ok (.iinc 2 1, 3) := by decide +kernel
theorem dX8_wash_87 : decode cX8_wash 87 = .ok (.goto (-73), 3) := by decide +kernel
theorem dX8_wash_90 : decode cX8_wash 90 = .ok (.iconst 0, 1) := by decide +kernel
theorem dX8_wash_91 : decode cX8_wash 91 = .ok (.istore_n 2, 1) := by decide +kernel
theorem dX8_wash_92 : decode cX8_wash 92 = .ok (.iload_n 2, 1) := by decide +kernel
theorem dX8_wash_93 : decode cX8_wash 93 = .ok (.bipush 10, 2) := by decide +kernel
theorem dX8_wash_95 : decode cX8_wash 95 = .ok (.if_icmp .ge 16, 3) := by decide +kernel
theorem dX8_wash_98 : decode cX8_wash 98 = .ok (.aload_n 0, 1) := by decide +kernel
theorem dX8_wash_99 : decode cX8_wash 99 = .ok (.getfield 72, 3) := by decide +kernel
theorem dX8_wash_102 : decode cX8_wash 102 = .ok (.iload_n 2, 1) := by decide +kernel
theorem dX8_wash_103 : decode cX8_wash 103 = .ok (.iconst (-1), 1) := by decide +kernel
theorem dX8_wash_104 : decode cX8_wash 104 = .ok (.iastore, 1) := by decide +kernel
theorem dX8_wash_105 : decode cX8_wash 105 = .ok (.iinc 2 1, 3) := by decide +kernel
theorem dX8_wash_108 : decode cX8_wash 108 = .ok (.goto (-16), 3) := by decide +kernel
theorem dX8_wash_111 : decode cX8_wash 111 = .ok (.iconst 0, 1) := by decide +kernel
theorem dX8_wash_112 : decode cX8_wash 112 = .ok (.istore_n 2, 1) := by decide +kernel
theorem dX8_wash_113 : decode cX8_wash 113 = .ok (.iload_n 2, 1) := by decide +kernel
theorem dX8_wash_114 : decode cX8_wash 114 = .ok (.iconst 4, 1) := by decide +kernel
theorem dX8_wash_115 : decode cX8_wash 115 = .ok (.if_icmp .ge 16, 3) := by decide +kernel
theorem dX8_wash_118 : decode cX8_wash 118 = .ok (.aload_n 0, 1) := by decide +kernel
theorem dX8_wash_119 : decode cX8_wash 119 = .ok (.getfield 75, 3) := by decide +kernel
theorem dX8_wash_122 : decode cX8_wash 122 = .ok (.iload_n 2, 1) := by decide +kernel
theorem dX8_wash_123 : decode cX8_wash 123 = .ok (.iconst 0, 1) := by decide +kernel
theorem dX8_wash_124 : decode cX8_wash 124 = .ok (.iastore, 1) := by decide +kernel
theorem dX8_wash_125 : decode cX8_wash 125 = .ok (.iinc 2 1, 3) := by decide +kernel
theorem dX8_wash_128 : decode cX8_wash 128 = .ok (.goto (-15), 3) := by decide +kernel
theorem dX8_wash_131 : decode cX8_wash 131 = .ok (.aload_n 0, 1) := by decide +kernel
theorem dX8_wash_132 : decode cX8_wash 132 = .ok (.aload_n 0, 1) := by decide +kernel
theorem dX8_wash_133 : decode cX8_wash 133 = .ok (.getfield 133, 3) := by decide +kernel
theorem dX8_wash_136 : decode cX8_wash 136 = .ok (.putfield 157, 3) := by decide +kernel
theorem dX8_wash_139 : decode cX8_wash 139 = .ok (.iconst 0, 1) := by decide +kernel
theorem dX8_wash_140 : decode cX8_wash 140 = .ok (.istore_n 2, 1) := by decide +kernel
theorem dX8_wash_141 : decode cX8_wash 141 = .ok (.iconst 0, 1) := by decide +kernel
theorem dX8_wash_142 : decode cX8_wash 142 = .ok (.istore_n 3, 1) := by decide +kernel
theorem dX8_wash_143 : decode cX8_wash 143 = .ok (.iconst 0, 1) := by decide +kernel
theorem dX8_wash_144 : decode cX8_wash 144 = .ok (.istore 4, 2) := by decide +kernel
theorem dX8_wash_146 : decode cX8_wash 146 = .ok (.iconst 0, 1) := by decide +kernel
theorem dX8_wash_147 : decode cX8_wash 147 = .ok (.istore 5, 2) := by decide +kernel
theorem dX8_wash_149 : decode cX8_wash 149 = .ok (.iconst 0, 1) := by decide +kernel
theorem dX8_wash_150 : decode cX8_wash 150 = .ok (.istore 6, 2) := by decide +kernel
theorem dX8_wash_152 : decode cX8_wash 152 = .ok (.iconst 0, 1) := by decide +kernel
theorem dX8_wash_153 : decode cX8_wash 153 = .ok (.istore 7, 2) := by decide +kernel
theorem dX8_wash_155 : decode cX8_wash 155 = .ok (.iload 6, 2) := by decide +kernel
theorem dX8_wash_157 : decode cX8_wash 157 = .ok (.aload_n 0, 1) := by decide +kernel
theorem dX8_wash_158 : decode cX8_wash 158 = .ok (.getfield 133, 3) := by decide +kernel
theorem dX8_wash_161 : decode cX8_wash 161 = .ok (.if_icmp .ge 196, 3) := by decide +kernel
theorem dX8_wash_164 : decode cX8_wash 164 = .ok (.iinc 2 1, 3) := by decide +kernel
theorem dX8_wash_167 : decode cX8_wash 167 = .ok (.aload_n 0, 1) := by decide +kernel
theorem dX8_wash_168 : decode cX8_wash 168 = .ok (.getfield 72, 3) := by decide +kernel
theorem dX8_wash_171 : decode cX8_wash 171 = .ok (.aload_n 0, 1) := by decide +kernel
theorem dX8_wash_172 : decode cX8_wash 172 = .ok (.getfield 56, 3) := by decide +kernel
theorem dX8_wash_175 : decode cX8_wash 175 = .ok (.iconst 1, 1) := by decide +kernel
theorem dX8_wash_176 : decode cX8_wash 176 = .ok (.isub, 1) := by decide +kernel
theorem dX8_wash_177 : decode cX8_wash 177 = .ok (.iaload, 1) := by decide +kernel
theorem dX8_wash_178 : decode cX8_wash 178 = .ok (.istore 8, 2) := by decide +kernel
theorem dX8_wash_180 : decode cX8_wash 180 = .ok (.iload 8, 2) := by decide +kernel
theorem dX8_wash_182 : decode cX8_wash 182 = .ok (.iconst (-1), 1) := by decide +kernel
theorem dX8_wash_183 : decode cX8_wash 183 = .ok (.if_icmp .eq 32, 3) := by decide +kernel
theorem dX8_wash_186 : decode cX8_wash 186 = .ok (.aload_n 0, 1) := by decide +kernel
theorem dX8_wash_187 : decode cX8_wash 187 = .ok (.getfield 20, 3) := by decide +kernel
theorem dX8_wash_190 : decode cX8_wash 190 = .ok (.aload_n 0, 1) := by decide +kernel
theorem dX8_wash_191 : decode cX8_wash 191 = .ok (.iload 8, 2) := by decide +kernel
theorem dX8_wash_193 : decode cX8_wash 193 = .ok (.invokevirtual 151, 3) := by decide +kernel
theorem dX8_wash_196 : decode cX8_wash 196 = .ok (.iaload, 1) := by decide +kernel
theorem dX8_wash_197 : decode cX8_wash 197 = .ok (.ifCond .le 18, 3) := by decide +kernel
theorem dX8_wash_200 : decode cX8_wash 200 = .ok (.aload_n 0, 1) := by decide +kernel
theorem dX8_wash_201 : decode cX8_wash 201 = .ok (.iload_n 2, 1) := by decide +kernel
theorem dX8_wash_202 : decode cX8_wash 202 = .ok (.invokevirtual 154, 3) := by decide +kernel
theorem dX8_wash_205 : decode cX8_wash 205 = .ok (.iconst (-1), 1) := by decide +kernel
theorem dX8_wash_206 : decode cX8_wash 206 = .ok (.if_icmp .ne 9, 3) := by decide +kernel
theorem dX8_wash_209 : decode cX8_wash 209 = .ok (.iinc 3 1, 3) := by decide +kernel
theorem dX8_wash_212 : decode cX8_wash 212 = .ok (.goto 142, 3) := by decide +kernel
theorem dX8_wash_215 : decode cX8_wash 215 = .ok (.iload 8, 2) := by decide +kernel
theorem dX8_wash_217 : decode cX8_wash 217 = .ok (.iconst (-1), 1) := by decide +kernel
theorem dX8_wash_218 : decode cX8_wash 218 = .ok (.if_icmp .eq 15, 3) := by decide +kernel
theorem dX8_wash_221 : decode cX8_wash 221 = .ok (.aload_n 0, 1) := by decide +kernel
theorem dX8_wash_222 : decode cX8_wash 222 = .ok (.iload 8, 2) := by decide +kernel
theorem dX8_wash_224 : decode cX8_wash 224 = .ok (.iload_n 2, 1) := by decide +kernel
theorem dX8_wash_225 : decode cX8_wash 225 = .ok (.iload 6, 2) := by decide +kernel
theorem dX8_wash_227 : decode cX8_wash 227 = .ok (.invokevirtual 160, 3) := by decide +kernel
theorem dX8_wash_230 : decode cX8_wash 230 = .ok (.iinc 6 1, 3) := by decide +kernel
theorem dX8_wash_233 : decode cX8_wash 233 = .ok (.aload_n 0, 1) := by decide +kernel
theorem dX8_wash_234 : decode cX8_wash 234 = .ok (.getfield 56, 3) := by decide +kernel
theorem dX8_wash_237 : decode cX8_wash 237 = .ok (.iconst 1, 1) := by decide +kernel
theorem dX8_wash_238 : decode cX8_wash 238 = .ok (.isub, 1) := by decide +kernel
theorem dX8_wash_239 : decode cX8_wash 239 = .ok (.istore 9, 2) := by decide +kernel
theorem dX8_wash_241 : decode cX8_wash 241 = .ok (.iload 9, 2) := by decide +kernel
theorem dX8_wash_243 : decode cX8_wash 243 = .ok (.ifCond .le 25, 3) := by decide +kernel
theorem dX8_wash_246 : decode cX8_wash 246 = .ok (.aload_n 0, 1) := by decide +kernel
theorem dX8_wash_247 : decode cX8_wash 247 = .ok (.getfield 72, 3) := by decide +kernel
theorem dX8_wash_250 : decode cX8_wash 250 = .ok (.iload 9, 2) := by decide +kernel
theorem dX8_wash_252 : decode cX8_wash 252 = .ok (.aload_n 0, 1) := by decide +kernel
theorem dX8_wash_253 : decode cX8_wash 253 = .ok (.getfield 72, 3) := by decide +kernel
theorem dX8_wash_256 : decode cX8_wash 256 = .ok (.iload 9, 2) := by decide +kernel
theorem dX8_wash_258 : decode cX8_wash 258 = .ok (.iconst 1, 1) := by decide +kernel
theorem dX8_wash_259 : decode cX8_wash 259 = .ok (.isub, 1) := by decide +kernel
theorem dX8_wash_260 : decode cX8_wash 260 = .ok (.iaload, 1) := by decide +kernel
theorem dX8_wash_261 : decode cX8_wash 261 = .ok (.iastore, 1) := by decide +kernel
theorem dX8_wash_262 : decode cX8_wash 262 = .ok (.iinc 9 (-1), 3) := by decide +kernel
theorem dX8_wash_265 : decode cX8_wash 265 = .ok (.goto (-24), 3) := by decide +kernel
theorem dX8_wash_268 : decode cX8_wash 268 = .ok (.aload_n 0, 1) := by decide +kernel
theorem dX8_wash_269 : decode cX8_wash 269 = .ok (.getfield 72, 3) := by decide +kernel
theorem dX8_wash_272 : decode cX8_wash 272 = .ok (.iconst 0, 1) := by decide +kernel
theorem dX8_wash_273 : decode cX8_wash 273 = .ok (.iload 5, 2) := by decide +kernel
theorem dX8_wash_275 : decode cX8_wash 275 = .ok (.iload_n 1, 1) := by decide +kernel
theorem dX8_wash_276 : decode cX8_wash 276 = .ok (.if_icmp .ge 13, 3) := by decide +kernel
theorem dX8_wash_279 : decode cX8_wash 279 = .ok (.aload_n 0, 1) := by decide +kernel
theorem dX8_wash_280 : decode cX8_wash 280 = .ok (.getfield 69, 3) := by decide +kernel
theorem dX8_wash_283 : decode cX8_wash 283 = .ok (.iload 5, 2) := by decide +kernel
theorem dX8_wash_285 : decode cX8_wash 285 = .ok (.iaload, 1) := by decide +kernel
theorem dX8_wash_286 : decode cX8_wash 286 = .ok (.goto 4, 3) := by decide +kernel
theorem dX8_wash_289 : decode cX8_wash 289 = .ok (.iconst (-1), 1) := by decide +kernel
theorem dX8_wash_290 : decode cX8_wash 290 = .ok (.iastore, 1) := by decide +kernel
theorem dX8_wash_291 : decode cX8_wash 291 = .ok (.aload_n 0, 1) := by decide +kernel
theorem dX8_wash_292 : decode cX8_wash 292 = .ok (.getfield 72, 3) := by decide +kernel
theorem dX8_wash_295 : decode cX8_wash 295 = .ok (.iconst 0, 1) := by decide +kernel
theorem dX8_wash_296 : decode cX8_wash 296 = .ok (.iaload, 1) := by decide +kernel
theorem dX8_wash_297 : decode cX8_wash 297 = .ok (.iconst (-1), 1) := by decide +kernel
theorem dX8_wash_298 : decode cX8_wash 298 = .ok (.if_icmp .eq 44, 3) := by decide +kernel
theorem dX8_wash_301 : decode cX8_wash 301 = .ok (.aload_n 0, 1) := by decide +kernel
theorem dX8_wash_302 : decode cX8_wash 302 = .ok (.getfield 84, 3) := by decide +kernel
theorem dX8_wash_305 : decode cX8_wash 305 = .ok (.bipush 7, 2) := by decide +kernel
theorem dX8_wash_307 : decode cX8_wash 307 = .ok (.aload_n 0, 1) := by decide +kernel
theorem dX8_wash_308 : decode cX8_wash 308 = .ok (.getfield 72, 3) := by decide +kernel
theorem dX8_wash_311 : decode cX8_wash 311 = .ok (.iconst 0, 1) := by decide +kernel
theorem dX8_wash_312 : decode cX8_wash 312 = .ok (.iaload, 1) := by decide +kernel
theorem dX8_wash_313 : decode cX8_wash 313 = .ok (.imul, 1) := by decide +kernel
theorem dX8_wash_314 : decode cX8_wash 314 = .ok (.iconst 1, 1) := by decide +kernel
theorem dX8_wash_315 : decode cX8_wash 315 = .ok (.iadd, 1) := by decide +kernel
theorem dX8_wash_316 : decode cX8_wash 316 = .ok (.iload_n 2, 1) := by decide +kernel
theorem dX8_wash_317 : decode cX8_wash 317 = .ok (.iastore, 1) := by decide +kernel
theorem dX8_wash_318 : decode cX8_wash 318 = .ok (.aload_n 0, 1) := by decide +kernel
theorem dX8_wash_319 : decode cX8_wash 319 = .ok (.getfield 84, 3) := by decide +kernel
theorem dX8_wash_322 : decode cX8_wash 322 = .ok (.bipush 7, 2) := by decide +kernel
theorem dX8_wash_324 : decode cX8_wash 324 = .ok (.aload_n 0, 1) := by decide +kernel
theorem dX8_wash_325 : decode cX8_wash 325 = .ok (.getfield 72, 3) := by decide +kernel
theorem dX8_wash_328 : decode cX8_wash 328 = .ok (.iconst 0, 1) := by decide +kernel
theorem dX8_wash_329 : decode cX8_wash 329 = .ok (.iaload, 1) := by decide +kernel
theorem dX8_wash_330 : decode cX8_wash 330 = .ok (.imul, 1) := by decide +kernel
theorem dX8_wash_331 : decode cX8_wash 331 = .ok (.aload_n 0, 1) := by decide +kernel
theorem dX8_wash_332 : decode cX8_wash 332 = .ok (.aload_n 0, 1) := by decide +kernel
theorem dX8_wash_333 : decode cX8_wash 333 = .ok (.getfield 72, 3) := by decide +kernel
theorem dX8_wash_336 : decode cX8_wash 336 = .ok (.iconst 0, 1) := by decide +kernel
theorem dX8_wash_337 : decode cX8_wash 337 = .ok (.iaload, 1) := by decide +kernel
theorem dX8_wash_338 : decode cX8_wash 338 = .ok (.invokevirtual 151, 3) := by decide +kernel
theorem dX8_wash_341 : decode cX8_wash 341 = .ok (.iastore, 1) := by decide +kernel
theorem dX8_wash_342 : decode cX8_wash 342 = .ok (.iinc 5 1, 3) := by decide +kernel
theorem dX8_wash_345 : decode cX8_wash 345 = .ok (.iload 4, 2) := by decide +kernel
theorem dX8_wash_347 : decode cX8_wash 347 = .ok (.aload_n 0, 1) := by decide +kernel
theorem dX8_wash_348 : decode cX8_wash 348 = .ok (.invokevirtual 164, 3) := by decide +kernel
theorem dX8_wash_351 : decode cX8_wash 351 = .ok (.iadd, 1) := by decide +kernel
theorem dX8_wash_352 : decode cX8_wash 352 = .ok (.istore 4, 2) := by decide +kernel
theorem dX8_wash_354 : decode cX8_wash 354 = .ok (.goto (-199), 3) := by decide +kernel
theorem dX8_wash_357 : decode cX8_wash 357 = .ok (.aload_n 0, 1) := by decide +kernel
theorem dX8_wash_358 : decode cX8_wash 358 = .ok (.invokevirtual 167, 3) := by decide +kernel
theorem dX8_wash_361 : decode cX8_wash 361 = .ok (.aload_n 0, 1) := by decide +kernel
theorem dX8_wash_362 : decode cX8_wash 362 = .ok (.getfield 81, 3) := by decide +kernel
theorem dX8_wash_365 : decode cX8_wash 365 = .ok (.iconst 4, 1) := by decide +kernel
theorem dX8_wash_366 : decode cX8_wash 366 = .ok (.iconst 0, 1) := by decide +kernel
theorem dX8_wash_367 : decode cX8_wash 367 = .ok (.iastore, 1) := by decide +kernel
theorem dX8_wash_368 : decode cX8_wash 368 = .ok (.iconst 0, 1) := by decide +kernel
theorem dX8_wash_369 : decode cX8_wash 369 = .ok (.istore 8, 2) := by decide +kernel
theorem dX8_wash_371 : decode cX8_wash 371 = .ok (.iload 8, 2) := by decide +kernel
theorem dX8_wash_373 : decode cX8_wash 373 = .ok (.aload_n 0, 1) := by decide +kernel
theorem dX8_wash_374 : decode cX8_wash 374 = .ok (.getfield 133, 3) := by decide +kernel
theorem dX8_wash_377 : decode cX8_wash 377 = .ok (.if_icmp .ge 71, 3) := by decide +kernel
theorem dX8_wash_380 : decode cX8_wash 380 = .ok (.aload_n 0, 1) := by decide +kernel
theorem dX8_wash_381 : decode cX8_wash 381 = .ok (.getfield 81, 3) := by decide +kernel
theorem dX8_wash_384 : decode cX8_wash 384 = .ok (.iconst 4, 1) := by decide +kernel
theorem dX8_wash_385 : decode cX8_wash 385 = .ok (.aload_n 0, 1) := by decide +kernel
theorem dX8_wash_386 : decode cX8_wash 386 = .ok (.getfield 84, 3) := by decide +kernel
theorem dX8_wash_389 : decode cX8_wash 389 = .ok (.bipush 7, 2) := by decide +kernel
theorem dX8_wash_391 : decode cX8_wash 391 = .ok (.iload 8, 2) := by decide +kernel
theorem dX8_wash_393 : decode cX8_wash 393 = .ok (.imul, 1) := by decide +kernel
theorem dX8_wash_394 : decode cX8_wash 394 = .ok (.bipush 6, 2) := by decide +kernel
theorem dX8_wash_396 : decode cX8_wash 396 = .ok (.iadd, 1) := by decide +kernel
theorem dX8_wash_397 : decode cX8_wash 397 = .ok (.iaload, 1) := by decide +kernel
theorem dX8_wash_398 : decode cX8_wash 398 = .ok (.aload_n 0, 1) := by decide +kernel
theorem dX8_wash_399 : decode cX8_wash 399 = .ok (.getfield 81, 3) := by decide +kernel
theorem dX8_wash_402 : decode cX8_wash 402 = .ok (.iconst 4, 1) := by decide +kernel
theorem dX8_wash_403 : decode cX8_wash 403 = .ok (.iaload, 1) := by decide +kernel
theorem dX8_wash_404 : decode cX8_wash 404 = .ok (.if_icmp .le 19, 3) := by decide +kernel
theorem dX8_wash_407 : decode cX8_wash 407 = .ok (.aload_n 0, 1) := by decide +kernel
theorem dX8_wash_408 : decode cX8_wash 408 = .ok (.getfield 84, 3) := by decide +kernel
theorem dX8_wash_411 : decode cX8_wash 411 = .ok (.bipush 7, 2) := by decide +kernel
theorem dX8_wash_413 : decode cX8_wash 413 = .ok (.iload 8, 2) := by decide +kernel
theorem dX8_wash_415 : decode cX8_wash 415 = .ok (.imul, 1) := by decide +kernel
theorem dX8_wash_416 : decode cX8_wash 416 = .ok (.bipush 6, 2) := by decide +kernel
theorem dX8_wash_418 : decode cX8_wash 418 = .ok (.iadd, 1) := by decide +kernel
theorem dX8_wash_419 : decode cX8_wash 419 = .ok (.iaload, 1) := by decide +kernel
theorem dX8_wash_420 : decode cX8_wash 420 = .ok (.goto 9, 3) := by decide +kernel
theorem dX8_wash_423 : decode cX8_wash 423 = .ok (.aload_n 0, 1) := by decide +kernel
theorem dX8_wash_424 : decode cX8_wash 424 = .ok (.getfield 81, 3) := by decide +kernel
theorem dX8_wash_427 : decode cX8_wash 427 = .ok (.iconst 4, 1) := by decide +kernel
theorem dX8_wash_428 : decode cX8_wash 428 = .ok (.iaload, 1) := by decide +kernel
theorem dX8_wash_429 : decode cX8_wash 429 = .ok (.iastore, 1) := by decide +kernel
theorem dX8_wash_430 : decode cX8_wash 430 = .ok (.iload 7, 2) := by decide +kernel
theorem dX8_wash_432 : decode cX8_wash 432 = .ok (.aload_n 0, 1) := by decide +kernel
theorem dX8_wash_433 : decode cX8_wash 433 = .ok (.getfield 47, 3) := by decide +kernel
theorem dX8_wash_436 : decode cX8_wash 436 = .ok (.iload 8, 2) := by decide +kernel
theorem dX8_wash_438 : decode cX8_wash 438 = .ok (.iaload, 1) := by decide +kernel
theorem dX8_wash_439 : decode cX8_wash 439 = .ok (.iadd, 1) := by decide +kernel
theorem dX8_wash_440 : decode cX8_wash 440 = .ok (.istore 7, 2) := by decide +kernel
theorem dX8_wash_442 : decode cX8_wash 442 = .ok (.iinc 8 1, 3) := by decide +kernel
theorem dX8_wash_445 : decode cX8_wash 445 = .ok (.goto (-74), 3) := by decide +kernel
theorem dX8_wash_448 : decode cX8_wash 448 = .ok (.aload_n 0, 1) := by decide +kernel
theorem dX8_wash_449 : decode cX8_wash 449 = .ok (.getfield 81, 3) := by decide +kernel
theorem dX8_wash_452 : decode cX8_wash 452 = .ok (.iconst 0, 1) := by decide +kernel
theorem dX8_wash_453 : decode cX8_wash 453 = .ok (.iload_n 2, 1) := by decide +kernel
theorem dX8_wash_454 : decode cX8_wash 454 = .ok (.iastore, 1) := by decide +kernel
theorem dX8_wash_455 : decode cX8_wash 455 = .ok (.aload_n 0, 1) := by decide +kernel
theorem dX8_wash_456 : decode cX8_wash 456 = .ok (.getfield 81, 3) := by decide +kernel
theorem dX8_wash_459 : decode cX8_wash 459 = .ok (.iconst 1, 1) := by decide +kernel
theorem dX8_wash_460 : decode cX8_wash 460 = .ok (.aload_n 0, 1) := by decide +kernel
theorem dX8_wash_461 : decode cX8_wash 461 = .ok (.invokevirtual 147, 3) := by decide +kernel
theorem dX8_wash_464 : decode cX8_wash 464 = .ok (.iastore, 1) := by decide +kernel
theorem dX8_wash_465 : decode cX8_wash 465 = .ok (.aload_n 0, 1) := by decide +kernel
theorem dX8_wash_466 : decode cX8_wash 466 = .ok (.getfield 81, 3) := by decide +kernel
theorem dX8_wash_469 : decode cX8_wash 469 = .ok (.iconst 2, 1) := by decide +kernel
theorem dX8_wash_470 : decode cX8_wash 470 = .ok (.iload_n 3, 1) := by decide +kernel
theorem dX8_wash_471 : decode cX8_wash 471 = .ok (.iastore, 1) := by decide +kernel
theorem dX8_wash_472 : decode cX8_wash 472 = .ok (.aload_n 0, 1) := by decide +kernel
theorem dX8_wash_473 : decode cX8_wash 473 = .ok (.getfield 81, 3) := by decide +kernel
theorem dX8_wash_476 : decode cX8_wash 476 = .ok (.iconst 3, 1) := by decide +kernel
theorem dX8_wash_477 : decode cX8_wash 477 = .ok (.iload 4, 2) := by decide +kernel
theorem dX8_wash_479 : decode cX8_wash 479 = .ok (.iastore, 1) := by decide +kernel
theorem dX8_wash_480 : decode cX8_wash 480 = .ok (.aload_n 0, 1) := by decide +kernel
theorem dX8_wash_481 : decode cX8_wash 481 = .ok (.getfield 81, 3) := by decide +kernel
theorem dX8_wash_484 : decode cX8_wash 484 = .ok (.iconst 5, 1) := by decide +kernel
theorem dX8_wash_485 : decode cX8_wash 485 = .ok (.aload_n 0, 1) := by decide +kernel
theorem dX8_wash_486 : decode cX8_wash 486 = .ok (.getfield 133, 3) := by decide +kernel
theorem dX8_wash_489 : decode cX8_wash 489 = .ok (.iastore, 1) := by decide +kernel
theorem dX8_wash_490 : decode cX8_wash 490 = .ok (.aload_n 0, 1) := by decide +kernel
theorem dX8_wash_491 : decode cX8_wash 491 = .ok (.getfield 81, 3) := by decide +kernel
theorem dX8_wash_494 : decode cX8_wash 494 = .ok (.bipush 6, 2) := by decide +kernel
theorem dX8_wash_496 : decode cX8_wash 496 = .ok (.iload 7, 2) := by decide +kernel
theorem dX8_wash_498 : decode cX8_wash 498 = .ok (.iastore, 1) := by decide +kernel
theorem dX8_wash_499 : decode cX8_wash 499 = .ok (.iconst 0, 1) := by decide +kernel
theorem dX8_wash_500 : decode cX8_wash 500 = .ok (.istore 8, 2) := by decide +kernel
theorem dX8_wash_502 : decode cX8_wash 502 = .ok (.iload 8, 2) := by decide +kernel
theorem dX8_wash_504 : decode cX8_wash 504 = .ok (.aload_n 0, 1) := by decide +kernel
theorem dX8_wash_505 : decode cX8_wash 505 = .ok (.getfield 112, 3) := by decide +kernel
theorem dX8_wash_508 : decode cX8_wash 508 = .ok (.if_icmp .ge 47, 3) := by decide +kernel
theorem dX8_wash_511 : decode cX8_wash 511 = .ok (.aload_n 0, 1) := by decide +kernel
theorem dX8_wash_512 : decode cX8_wash 512 = .ok (.getfield 35, 3) := by decide +kernel
theorem dX8_wash_515 : decode cX8_wash 515 = .ok (.iload 8, 2) := by decide +kernel
theorem dX8_wash_517 : decode cX8_wash 517 = .ok (.iaload, 1) := by decide +kernel
theorem dX8_wash_518 : decode cX8_wash 518 = .ok (.iconst 2, 1) := by decide +kernel
theorem dX8_wash_519 : decode cX8_wash 519 = .ok (.if_icmp .ne 30, 3) := by decide +kernel
theorem dX8_wash_522 : decode cX8_wash 522 = .ok (.aload_n 0, 1) := by decide +kernel
theorem dX8_wash_523 : decode cX8_wash 523 = .ok (.getfield 35, 3) := by decide +kernel
theorem dX8_wash_526 : decode cX8_wash 526 = .ok (.iload 8, 2) := by decide +kernel
theorem dX8_wash_528 : decode cX8_wash 528 = .ok (.iconst 3, 1) := by decide +kernel
theorem dX8_wash_529 : decode cX8_wash 529 = .ok (.iastore, 1) := by decide +kernel
theorem dX8_wash_530 : decode cX8_wash 530 = .ok (.aload_n 0, 1) := by decide +kernel
theorem dX8_wash_531 : decode cX8_wash 531 = .ok (.getfield 41, 3) := by decide +kernel
theorem dX8_wash_534 : decode cX8_wash 534 = .ok (.iload 8, 2) := by decide +kernel
theorem dX8_wash_536 : decode cX8_wash 536 = .ok (.iconst (-1), 1) := by decide +kernel
theorem dX8_wash_537 : decode cX8_wash 537 = .ok (.iastore, 1) := by decide +kernel
theorem dX8_wash_538 : decode cX8_wash 538 = .ok (.aload_n 0, 1) := by decide +kernel
theorem dX8_wash_539 : decode cX8_wash 539 = .ok (.getfield 38, 3) := by decide +kernel
theorem dX8_wash_542 : decode cX8_wash 542 = .ok (.iload 8, 2) := by decide +kernel
theorem dX8_wash_544 : decode cX8_wash 544 = .ok (.dup2, 1) := by decide +kernel
theorem dX8_wash_545 : decode cX8_wash 545 = .ok (.iaload, 1) := by decide +kernel
theorem dX8_wash_546 : decode cX8_wash 546 = .ok (.iconst 1, 1) := by decide +kernel
theorem dX8_wash_547 : decode cX8_wash 547 = .ok (.iadd, 1) := by decide +kernel
theorem dX8_wash_548 : decode cX8_wash 548 = .ok (.iastore, 1) := by decide +kernel
theorem dX8_wash_549 : decode cX8_wash 549 = .ok (.iinc 8 1, 3) := by decide +kernel
theorem dX8_wash_552 : decode cX8_wash 552 = .ok (.goto (-50), 3) := by decide +kernel
theorem dX8_wash_555 : decode cX8_wash 555 = .ok (.aload_n 0, 1) := by decide +kernel
theorem dX8_wash_556 : decode cX8_wash 556 = .ok (.iconst 0, 1) := by decide +kernel
theorem dX8_wash_557 : decode cX8_wash 557 = .ok (.putfield 133, 3) := by decide +kernel
theorem dX8_wash_560 : decode cX8_wash 560 = .ok (.aload_n 0, 1) := by decide +kernel
theorem dX8_wash_561 : decode cX8_wash 561 = .ok (.dup, 1) := by decide +kernel
theorem dX8_wash_562 : decode cX8_wash 562 = .ok (.getfield 169, 3) := by decide +kernel
theorem dX8_wash_565 : decode cX8_wash 565 = .ok (.iconst 1, 1) := by decide +kernel
theorem dX8_wash_566 : decode cX8_wash 566 = .ok (.iadd, 1) := by decide +kernel
theorem dX8_wash_567 : decode cX8_wash 567 = .ok (.putfield 169, 3) := by decide +kernel
theorem dX8_wash_570 : decode cX8_wash 570 = .ok (.iload_n 2, 1) := by decide +kernel
theorem dX8_wash_571 : decode cX8_wash 571 = .ok (.ireturn, 1) := by decide +kernel
set_option maxRecDepth 20000 in
theorem ggX8_washed_X8_in : GoodIn wsX8_washed wsX8_in := goodIn_r _ [5] (by decide +kernel) (by decide +kernel)
set_option maxRecDepth 20000 in
theorem gX8_washed_X8_in : GoodIn wsX8_washed (va_wsS RX8 108 yX8_in wsX8_in) := goodIn_app (goodIn_of _ (by decide +kernel)) ggX8_washed_X8_in
theorem dX8_washed_0 : decode cX8_washed 0 = .ok (.iload_n 1, 1) := by decide +kernel
theorem dX8_washed_1 : decode cX8_washed 1 = .ok (.iconst 0, 1) := by decide +kernel
theorem dX8_washed_2 : decode cX8_washed 2 = .ok (.bipush 6, 2) := by decide +kernel
theorem dX8_washed_4 : decode cX8_washed 4 = .ok (.invokestatic 108, 3) := by decide +kernel
theorem dX8_washed_7 : decode cX8_washed 7 = .ok (.ifCond .eq 12, 3) := by decide +kernel
theorem dX8_washed_10 : decode cX8_washed 10 = .ok (.aload_n 0, 1) := by decide +kernel
theorem dX8_washed_11 : decode cX8_washed 11 = .ok (.getfield 81, 3) := by decide +kernel
theorem dX8_washed_14 : decode cX8_washed 14 = .ok (.iload_n 1, 1) := by decide +kernel
theorem dX8_washed_15 : decode cX8_washed 15 = .ok (.iaload, 1) := by decide +kernel
theorem dX8_washed_16 : decode cX8_washed 16 = .ok (.goto 5, 3) := by decide +kernel
theorem dX8_washed_19 : decode cX8_washed 19 = .ok (.bipush (-2), 2) := by decide +kernel
theorem dX8_washed_21 : decode cX8_washed 21 = .ok (.ireturn, 1) := by decide +kernel
set_option maxRecDepth 20000 in
theorem ggX8_run_X8_in : GoodIn wsX8_run wsX8_in := goodIn_r _ [6] (by decide +kernel) (by decide +kernel)
set_option maxRecDepth 20000 in
theorem gX8_run_X8_in : GoodIn wsX8_run (va_wsS RX8 108 yX8_in wsX8_in) := goodIn_app (goodIn_of _ (by decide +kernel)) ggX8_run_X8_in
theorem dX8_run_0 : decode cX8_run 0 = .ok (.iload_n 1, 1) := by decide +kernel
theorem dX8_run_1 : decode cX8_run 1 = .ok (.iconst 0, 1) := by decide +kernel
theorem dX8_run_2 : decode cX8_run 2 = .ok (.aload_n 0, 1) := by decide +kernel
theorem dX8_run_3 : decode cX8_run 3 = .ok (.getfield 157, 3) := by decide +kernel
theorem dX8_run_6 : decode cX8_run 6 = .ok (.iconst 1, 1) := by decide +kernel
theorem dX8_run_7 : decode cX8_run 7 = .ok (.isub, 1) := by decide +kernel
theorem dX8_run_8 : decode cX8_run 8 = .ok (.invokestatic 108, 3) := by decide +kernel
theorem dX8_run_11 : decode cX8_run 11 = .ok (.ifCond .eq 27, 3) := by decide +kernel
theorem dX8_run_14 : decode cX8_run 14 = .ok (.iload_n 2, 1) := by decide +kernel
theorem dX8_run_15 : decode cX8_run 15 = .ok (.iconst 0, 1) := by decide +kernel
theorem dX8_run_16 : decode cX8_run 16 = .ok (.bipush 6, 2) := by decide +kernel
theorem dX8_run_18 : decode cX8_run 18 = .ok (.invokestatic 108, 3) := by decide +kernel
theorem dX8_run_21 : decode cX8_run 21 = .ok (.ifCond .eq 17, 3) := by decide +kernel
theorem dX8_run_24 : decode cX8_run 24 = .ok (.aload_n 0, 1) := by decide +kernel
theorem dX8_run_25 : decode cX8_run 25 = .ok (.getfield 84, 3) := by decide +kernel
theorem dX8_run_28 : decode cX8_run 28 = .ok (.bipush 7, 2) := by decide +kernel
theorem dX8_run_30 : decode cX8_run 30 = .ok (.iload_n 1, 1) := by decide +kernel
theorem dX8_run_31 : decode cX8_run 31 = .ok (.imul, 1) := by decide +kernel
theorem dX8_run_32 : decode cX8_run 32 = .ok (.iload_n 2, 1) := by decide +kernel
theorem dX8_run_33 : decode cX8_run 33 = .ok (.iadd, 1) := by decide +kernel
theorem dX8_run_34 : decode cX8_run 34 = .ok (.iaload, 1) := by decide +kernel
theorem dX8_run_35 : decode cX8_run 35 = .ok (.goto 5, 3) := by decide +kernel
theorem dX8_run_38 : decode cX8_run 38 = .ok (.bipush (-2), 2) := by decide +kernel
theorem dX8_run_40 : decode cX8_run 40 = .ok (.ireturn, 1) := by decide +kernel
set_option maxRecDepth 20000 in
theorem ggX8_pack_X8_in : GoodIn wsX8_pack wsX8_in := goodIn_r _ [6] (by decide +kernel) (by decide +kernel)
set_option maxRecDepth 20000 in
theorem gX8_pack_X8_in : GoodIn wsX8_pack (va_wsS RX8 108 yX8_in wsX8_in) := goodIn_app (goodIn_of _ (by decide +kernel)) ggX8_pack_X8_in
set_option maxRecDepth 20000 in
theorem ggX8_pack_X8_isKind : GoodIn wsX8_pack wsX8_isKind := goodIn_r _ [10, 11, 3, 4, 5, 6, 18, 19, 20, 21, 22, 23, 24, 25, 26, 27, 28, 29, 30, 31, 32, 33, 34, 35, 36, 37, 38, 39, 40, 41, 42, 43, 44, 45, 46, 47, 48, 49, 50, 51, 52, 53, 54] (by decide +kernel) (by decide +kernel)
set_option maxRecDepth 20000 in
theorem gX8_pack_X8_isKind : GoodIn wsX8_pack (wsV RX8 115 RX8 yX8_isKind wsX8_isKind) := goodIn_app (goodIn_of _ (by decide +kernel)) ggX8_pack_X8_isKind
set_option maxRecDepth 20000 in
theorem ggX8_pack_X8_is : GoodIn wsX8_pack wsX8_is := goodIn_r _ [15, 2, 16, 17, 18, 19, 20, 21, 22, 23, 24, 25, 26, 27, 28, 29, 30, 31, 32, 33, 34, 35, 36, 37, 38, 39, 40, 41, 42, 43, 44, 45, 46, 47, 48, 49, 50, 51, 52, 53, 54] (by decide +kernel) (by decide +kernel)
set_option maxRecDepth 20000 in
theorem gX8_pack_X8_is : GoodIn wsX8_pack (wsV RX8 122 RX8 yX8_is wsX8_is) := goodIn_app (goodIn_of _ (by decide +kernel)) ggX8_pack_X8_is
theorem dX8_pack_0 : decode cX8_pack 0 = .ok (.iload_n 1, 1) := by decide +kernel
theorem dX8_pack_1 : decode cX8_pack 1 = .ok (.iconst 0, 1) := by decide +kernel
theorem dX8_pack_2 : decode cX8_pack 2 = .ok (.iconst 5, 1) := by decide +kernel
theorem dX8_pack_3 : decode cX8_pack 3 = .ok (.invokestatic 108, 3) := by decide +kernel
theorem dX8_pack_6 : decode cX8_pack 6 = .ok (.ifCond .eq 21, 3) := by decide +kernel
theorem dX8_pack_9 : decode cX8_pack 9 = .ok (.aload_n 0, 1) := by decide +kernel
theorem dX8_pack_10 : decode cX8_pack 10 = .ok (.iload_n 2, 1) := by decide +kernel
theorem dX8_pack_11 : decode cX8_pack 11 = .ok (.invokevirtual 115, 3) := by decide +kernel
theorem dX8_pack_14 : decode cX8_pack 14 = .ok (.ifCond .eq 13, 3) := by decide +kernel
theorem dX8_pack_17 : decode cX8_pack 17 = .ok (.iload_n 3, 1) := by decide +kernel
theorem dX8_pack_18 : decode cX8_pack 18 = .ok (.iconst 1, 1) := by decide +kernel
theorem dX8_pack_19 : decode cX8_pack 19 = .ok (.bipush 40, 2) := by decide +kernel
theorem dX8_pack_21 : decode cX8_pack 21 = .ok (.invokestatic 108, 3) := by decide +kernel
theorem dX8_pack_24 : decode cX8_pack 24 = .ok (.ifCond .ne 6, 3) := by decide +kernel
theorem dX8_pack_27 : decode cX8_pack 27 = .ok (.bipush (-2), 2) := by decide +kernel
theorem dX8_pack_29 : decode cX8_pack 29 = .ok (.ireturn, 1) := by decide +kernel
theorem dX8_pack_30 : decode cX8_pack 30 = .ok (.iconst 0, 1) := by decide +kernel
theorem dX8_pack_31 : decode cX8_pack 31 = .ok (.istore 4, 2) := by decide +kernel
theorem dX8_pack_33 : decode cX8_pack 33 = .ok (.iconst 0, 1) := by decide +kernel
theorem dX8_pack_34 : decode cX8_pack 34 = .ok (.istore 5, 2) := by decide +kernel
theorem dX8_pack_36 : decode cX8_pack 36 = .ok (.iload 5, 2) := by decide +kernel
theorem dX8_pack_38 : decode cX8_pack 38 = .ok (.aload_n 0, 1) := by decide +kernel
theorem dX8_pack_39 : decode cX8_pack 39 = .ok (.getfield 112, 3) := by decide +kernel
theorem dX8_pack_42 : decode cX8_pack 42 = .ok (.if_icmp .ge 31, 3) := by decide +kernel
theorem dX8_pack_45 : decode cX8_pack 45 = .ok (.iload 4, 2) := by decide +kernel
theorem dX8_pack_47 : decode cX8_pack 47 = .ok (.aload_n 0, 1) := by decide +kernel
theorem dX8_pack_48 : decode cX8_pack 48 = .ok (.iload 5, 2) := by decide +kernel
theorem dX8_pack_50 : decode cX8_pack 50 = .ok (.iload_n 1, 1) := by decide +kernel
theorem dX8_pack_51 : decode cX8_pack 51 = .ok (.iload_n 2, 1) := by decide +kernel
theorem dX8_pack_52 : decode cX8_pack 52 = .ok (.iconst 3, 1) := by decide +kernel
theorem dX8_pack_53 : decode cX8_pack 53 = .ok (.invokevirtual 122, 3) := by decide +kernel
theorem dX8_pack_56 : decode cX8_pack 56 = .ok (.ifCond .eq 7, 3) := by decide +kernel
theorem dX8_pack_59 : decode cX8_pack 59 = .ok (.iconst 1, 1) := by decide +kernel
theorem dX8_pack_60 : decode cX8_pack 60 = .ok (.goto 4, 3) := by decide +kernel
theorem dX8_pack_63 : decode cX8_pack 63 = .ok (.iconst 0, 1) := by decide +kernel
theorem dX8_pack_64 : decode cX8_pack 64 = .ok (.iadd, 1) := by decide +kernel
theorem dX8_pack_65 : decode cX8_pack 65 = .ok (.istore 4, 2) := by decide +kernel
theorem dX8_pack_67 : decode cX8_pack 67 = .ok (.iinc 5 1, 3) := by decide +kernel
theorem dX8_pack_70 : decode cX8_pack 70 = .ok (.goto (-34), 3) := by decide +kernel
theorem dX8_pack_73 : decode cX8_pack 73 = .ok (.iload 4, 2) := by decide +kernel
theorem dX8_pack_75 : decode cX8_pack 75 = .ok (.iload_n 3, 1) := by decide +kernel
theorem dX8_pack_76 : decode cX8_pack 76 = .ok (.if_icmp .ge 11, 3) := by decide +kernel
theorem dX8_pack_79 : decode cX8_pack 79 = .ok (.bipush (-100), 2) := by decide +kernel
theorem dX8_pack_81 : decode cX8_pack 81 = .ok (.iload_n 3, 1) := by decide +kernel
theorem dX8_pack_82 : decode cX8_pack 82 = .ok (.iload 4, 2) := by decide +kernel
theorem dX8_pack_84 : decode cX8_pack 84 = .ok (.isub, 1) := by decide +kernel
theorem dX8_pack_85 : decode cX8_pack 85 = .ok (.isub, 1) := by decide +kernel
theorem dX8_pack_86 : decode cX8_pack 86 = .ok (.ireturn, 1) := by decide +kernel
theorem dX8_pack_87 : decode cX8_pack 87 = .ok (.iload_n 3, 1) := by decide +kernel
theorem dX8_pack_88 : decode cX8_pack 88 = .ok (.istore 5, 2) := by decide +kernel
theorem dX8_pack_90 : decode cX8_pack 90 = .ok (.iconst 0, 1) := by decide +kernel
theorem dX8_pack_91 : decode cX8_pack 91 = .ok (.istore 6, 2) := by decide +kernel
theorem dX8_pack_93 : decode cX8_pack 93 = .ok (.iload 6, 2) := by decide +kernel
theorem dX8_pack_95 : decode cX8_pack 95 = .ok (.aload_n 0, 1) := by decide +kernel
theorem dX8_pack_96 : decode cX8_pack 96 = .ok (.getfield 112, 3) := by decide +kernel
theorem dX8_pack_99 : decode cX8_pack 99 = .ok (.if_icmp .ge 37, 3) := by decide +kernel
theorem dX8_pack_102 : decode cX8_pack 102 = .ok (.iload 5, 2) := by decide +kernel
theorem dX8_pack_104 : decode cX8_pack 104 = .ok (.ifCond .le 32, 3) := by decide +kernel
theorem dX8_pack_107 : decode cX8_pack 107 = .ok (.aload_n 0, 1) := by decide +kernel
theorem dX8_pack_108 : decode cX8_pack 108 = .ok (.iload 6, 2) := by decide +kernel
theorem dX8_pack_110 : decode cX8_pack 110 = .ok (.iload_n 1, 1) := by decide +kernel
theorem dX8_pack_111 : decode cX8_pack 111 = .ok (.iload_n 2, 1) := by decide +kernel
theorem dX8_pack_112 : decode cX8_pack 112 = .ok (.iconst 3, 1) := by decide +kernel
theorem dX8_pack_113 : decode cX8_pack 113 = .ok (.invokevirtual 122, 3) := by decide +kernel
theorem dX8_pack_116 : decode cX8_pack 116 = .ok (.ifCond .eq 14, 3) := by decide +kernel
theorem dX8_pack_119 : decode cX8_pack 119 = .ok (.aload_n 0, 1) := by decide +kernel
theorem dX8_pack_120 : decode cX8_pack 120 = .ok (.getfield 35, 3) := by decide +kernel
theorem dX8_pack_123 : decode cX8_pack 123 = .ok (.iload 6, 2) := by decide +kernel
theorem dX8_pack_125 : decode cX8_pack 125 = .ok (.iconst 0, 1) := by decide +kernel
theorem dX8_pack_126 : decode cX8_pack 126 = .ok (.iastore, 1) := by decide +kernel
theorem dX8_pack_127 : decode cX8_pack 127 = .ok (.iinc 5 (-1), 3) := by decide +kernel
theorem dX8_pack_130 : decode cX8_pack 130 = .ok (.iinc 6 1, 3) := by decide +kernel
theorem dX8_pack_133 : decode cX8_pack 133 = .ok (.goto (-40), 3) := by decide +kernel
theorem dX8_pack_136 : decode cX8_pack 136 = .ok (.iload_n 3, 1) := by decide +kernel
theorem dX8_pack_137 : decode cX8_pack 137 = .ok (.ireturn, 1) := by decide +kernel
theorem dX8_meets_0 : decode cX8_meets 0 = .ok (.aload_n 0, 1) := by decide +kernel
theorem dX8_meets_1 : decode cX8_meets 1 = .ok (.iload_n 1, 1) := by decide +kernel
theorem dX8_meets_2 : decode cX8_meets 2 = .ok (.putfield 172, 3) := by decide +kernel
theorem dX8_meets_5 : decode cX8_meets 5 = .ok (.bipush (-10), 2) := by decide +kernel
theorem dX8_meets_7 : decode cX8_meets 7 = .ok (.iload_n 1, 1) := by decide +kernel
theorem dX8_meets_8 : decode cX8_meets 8 = .ok (.isub, 1) := by decide +kernel
theorem dX8_meets_9 : decode cX8_meets 9 = .ok (.ireturn, 1) := by decide +kernel
set_option maxRecDepth 20000 in
theorem ggX8_isSheet_X8_in : GoodIn wsX8_isSheet wsX8_in := goodIn_r _ [4] (by decide +kernel) (by decide +kernel)
set_option maxRecDepth 20000 in
theorem gX8_isSheet_X8_in : GoodIn wsX8_isSheet (va_wsS RX8 108 yX8_in wsX8_in) := goodIn_app (goodIn_of _ (by decide +kernel)) ggX8_isSheet_X8_in
theorem dX8_isSheet_0 : decode cX8_isSheet 0 = .ok (.iload_n 0, 1) := by decide +kernel
theorem dX8_isSheet_1 : decode cX8_isSheet 1 = .ok (.iconst 0, 1) := by decide +kernel
theorem dX8_isSheet_2 : decode cX8_isSheet 2 = .ok (.iconst 3, 1) := by decide +kernel
theorem dX8_isSheet_3 : decode cX8_isSheet 3 = .ok (.invokestatic 108, 3) := by decide +kernel
theorem dX8_isSheet_6 : decode cX8_isSheet 6 = .ok (.ireturn, 1) := by decide +kernel
set_option maxRecDepth 20000 in
theorem ggX8_sheet_X8_isSheet : GoodIn wsX8_sheet wsX8_isSheet := goodIn_r _ [8, 9, 10, 7, 11] (by decide +kernel) (by decide +kernel)
set_option maxRecDepth 20000 in
theorem gX8_sheet_X8_isSheet : GoodIn wsX8_sheet (va_wsS RX8 126 yX8_isSheet wsX8_isSheet) := goodIn_app (goodIn_of _ (by decide +kernel)) ggX8_sheet_X8_isSheet
set_option maxRecDepth 20000 in
theorem ggX8_sheet_X8_in : GoodIn wsX8_sheet wsX8_in := goodIn_r _ [11] (by decide +kernel) (by decide +kernel)
set_option maxRecDepth 20000 in
theorem gX8_sheet_X8_in : GoodIn wsX8_sheet (va_wsS RX8 108 yX8_in wsX8_in) := goodIn_app (goodIn_of _ (by decide +kernel)) ggX8_sheet_X8_in
set_option maxRecDepth 20000 in
theorem ggX8_sheet_X8_meets : GoodIn wsX8_sheet wsX8_meets := goodIn_r _ [15, 16, 17, 18, 19, 20, 21, 22, 23, 24, 25, 26, 27, 28, 29, 30, 31, 32, 33, 34, 35, 36, 37, 38, 39, 40, 41, 42, 43, 44, 45, 46, 47, 48, 49, 50, 51, 52, 53] (by decide +kernel) (by decide +kernel)
set_option maxRecDepth 20000 in
theorem gX8_sheet_X8_meets : GoodIn wsX8_sheet (wsV RX8 129 RX8 yX8_meets wsX8_meets) := goodIn_app (goodIn_of _ (by decide +kernel)) ggX8_sheet_X8_meets
theorem dX8_sheet_0 : decode cX8_sheet 0 = .ok (.iload_n 1, 1) := by decide +kernel
theorem dX8_sheet_1 : decode cX8_sheet 1 = .ok (.invokestatic 126, 3) := by decide +kernel
theorem dX8_sheet_4 : decode cX8_sheet 4 = .ok (.ifCond .eq 18, 3) := by decide +kernel
theorem dX8_sheet_7 : decode cX8_sheet 7 = .ok (.iload_n 2, 1) := by decide +kernel
theorem dX8_sheet_8 : decode cX8_sheet 8 = .ok (.iconst 0, 1) := by decide +kernel
theorem dX8_sheet_9 : decode cX8_sheet 9 = .ok (.iconst 2, 1) := by decide +kernel
theorem dX8_sheet_10 : decode cX8_sheet 10 = .ok (.invokestatic 108, 3) := by decide +kernel
theorem dX8_sheet_13 : decode cX8_sheet 13 = .ok (.ifCond .eq 9, 3) := by decide +kernel
theorem dX8_sheet_16 : decode cX8_sheet 16 = .ok (.iload_n 3, 1) := by decide +kernel
theorem dX8_sheet_17 : decode cX8_sheet 17 = .ok (.bipush 60, 2) := by decide +kernel
theorem dX8_sheet_19 : decode cX8_sheet 19 = .ok (.if_icmp .le 6, 3) := by decide +kernel
theorem dX8_sheet_22 : decode cX8_sheet 22 = .ok (.bipush (-2), 2) := by decide +kernel
theorem dX8_sheet_24 : decode cX8_sheet 24 = .ok (.ireturn, 1) := by decide +kernel
theorem dX8_sheet_25 : decode cX8_sheet 25 = .ok (.iload_n 3, 1) := by decide +kernel
theorem dX8_sheet_26 : decode cX8_sheet 26 = .ok (.ifCond .ge 9, 3) := by decide +kernel
theorem dX8_sheet_29 : decode cX8_sheet 29 = .ok (.aload_n 0, 1) := by decide +kernel
theorem dX8_sheet_30 : decode cX8_sheet 30 = .ok (.iconst 5, 1) := by decide +kernel
theorem dX8_sheet_31 : decode cX8_sheet 31 = .ok (.invokevirtual 129, 3) := by decide +kernel
theorem dX8_sheet_34 : decode cX8_sheet 34 = .ok (.ireturn, 1) := by decide +kernel
theorem dX8_sheet_35 : decode cX8_sheet 35 = .ok (.aload_n 0, 1) := by decide +kernel
theorem dX8_sheet_36 : decode cX8_sheet 36 = .ok (.getfield 90, 3) := by decide +kernel
theorem dX8_sheet_39 : decode cX8_sheet 39 = .ok (.iload_n 1, 1) := by decide +kernel
theorem dX8_sheet_40 : decode cX8_sheet 40 = .ok (.iconst 1, 1) := by decide +kernel
theorem dX8_sheet_41 : decode cX8_sheet 41 = .ok (.bastore, 1) := by decide +kernel
theorem dX8_sheet_42 : decode cX8_sheet 42 = .ok (.aload_n 0, 1) := by decide +kernel
theorem dX8_sheet_43 : decode cX8_sheet 43 = .ok (.getfield 93, 3) := by decide +kernel
theorem dX8_sheet_46 : decode cX8_sheet 46 = .ok (.iload_n 1, 1) := by decide +kernel
theorem dX8_sheet_47 : decode cX8_sheet 47 = .ok (.iload_n 2, 1) := by decide +kernel
theorem dX8_sheet_48 : decode cX8_sheet 48 = .ok (.iastore, 1) := by decide +kernel
theorem dX8_sheet_49 : decode cX8_sheet 49 = .ok (.aload_n 0, 1) := by decide +kernel
theorem dX8_sheet_50 : decode cX8_sheet 50 = .ok (.getfield 96, 3) := by decide +kernel
theorem dX8_sheet_53 : decode cX8_sheet 53 = .ok (.iload_n 1, 1) := by decide +kernel
theorem dX8_sheet_54 : decode cX8_sheet 54 = .ok (.iload_n 3, 1) := by decide +kernel
theorem dX8_sheet_55 : decode cX8_sheet 55 = .ok (.iastore, 1) := by decide +kernel
theorem dX8_sheet_56 : decode cX8_sheet 56 = .ok (.iconst 0, 1) := by decide +kernel
theorem dX8_sheet_57 : decode cX8_sheet 57 = .ok (.istore 4, 2) := by decide +kernel
theorem dX8_sheet_59 : decode cX8_sheet 59 = .ok (.iload 4, 2) := by decide +kernel
theorem dX8_sheet_61 : decode cX8_sheet 61 = .ok (.bipush 60, 2) := by decide +kernel
theorem dX8_sheet_63 : decode cX8_sheet 63 = .ok (.if_icmp .ge 22, 3) := by decide +kernel
theorem dX8_sheet_66 : decode cX8_sheet 66 = .ok (.aload_n 0, 1) := by decide +kernel
theorem dX8_sheet_67 : decode cX8_sheet 67 = .ok (.getfield 99, 3) := by decide +kernel
theorem dX8_sheet_70 : decode cX8_sheet 70 = .ok (.bipush 60, 2) := by decide +kernel
theorem dX8_sheet_72 : decode cX8_sheet 72 = .ok (.iload_n 1, 1) := by decide +kernel
theorem dX8_sheet_73 : decode cX8_sheet 73 = .ok (.imul, 1) := by decide +kernel
theorem dX8_sheet_74 : decode cX8_sheet 74 = .ok (.iload 4, 2) := by decide +kernel
theorem dX8_sheet_76 : decode cX8_sheet 76 = .ok (.iadd, 1) := by decide +kernel
theorem dX8_sheet_77 : decode cX8_sheet 77 = .ok (.iconst 0, 1) := by decide +kernel
theorem dX8_sheet_78 : decode cX8_sheet 78 = .ok (.iastore, 1) := by decide +kernel
theorem dX8_sheet_79 : decode cX8_sheet 79 = .ok (.iinc 4 1, 3) := by decide +kernel
theorem dX8_sheet_82 : decode cX8_sheet 82 = .ok (.goto (-23), 3) := by decide +kernel
theorem dX8_sheet_85 : decode cX8_sheet 85 = .ok (.iload_n 3, 1) := by decide +kernel
theorem dX8_sheet_86 : decode cX8_sheet 86 = .ok (.ireturn, 1) := by decide +kernel
set_option maxRecDepth 20000 in
theorem ggX8_lose_X8_isSheet : GoodIn wsX8_lose wsX8_isSheet := goodIn_r _ [6, 7, 8, 5, 9] (by decide +kernel) (by decide +kernel)
set_option maxRecDepth 20000 in
theorem gX8_lose_X8_isSheet : GoodIn wsX8_lose (va_wsS RX8 126 yX8_isSheet wsX8_isSheet) := goodIn_app (goodIn_of _ (by decide +kernel)) ggX8_lose_X8_isSheet
set_option maxRecDepth 20000 in
theorem ggX8_lose_X8_meets : GoodIn wsX8_lose wsX8_meets := goodIn_r _ [13, 14, 15, 16, 17, 18, 19, 20, 21, 22, 23, 24, 25, 26, 27, 28, 29, 30, 31, 32, 33, 34, 35, 36, 37, 38, 39, 40, 41, 42, 43, 44, 45, 46, 47, 48, 49, 50, 51] (by decide +kernel) (by decide +kernel)
set_option maxRecDepth 20000 in
theorem gX8_lose_X8_meets : GoodIn wsX8_lose (wsV RX8 129 RX8 yX8_meets wsX8_meets) := goodIn_app (goodIn_of _ (by decide +kernel)) ggX8_lose_X8_meets
theorem dX8_lose_0 : decode cX8_lose 0 = .ok (.iload_n 1, 1) := by decide +kernel
theorem dX8_lose_1 : decode cX8_lose 1 = .ok (.invokestatic 126, 3) := by decide +kernel
theorem dX8_lose_4 : decode cX8_lose 4 = .ok (.ifCond .ne 6, 3) := by decide +kernel
theorem dX8_lose_7 : decode cX8_lose 7 = .ok (.bipush (-2), 2) := by decide +kernel
theorem dX8_lose_9 : decode cX8_lose 9 = .ok (.ireturn, 1) := by decide +kernel
theorem dX8_lose_10 : decode cX8_lose 10 = .ok (.aload_n 0, 1) := by decide +kernel
theorem dX8_lose_11 : decode cX8_lose 11 = .ok (.getfield 90, 3) := by decide +kernel
theorem dX8_lose_14 : decode cX8_lose 14 = .ok (.iload_n 1, 1) := by decide +kernel
theorem dX8_lose_15 : decode cX8_lose 15 = .ok (.baload, 1) := by decide +kernel
theorem dX8_lose_16 : decode cX8_lose 16 = .ok (.ifCond .ne 9, 3) := by decide +kernel
theorem dX8_lose_19 : decode cX8_lose 19 = .ok (.aload_n 0, 1) := by decide +kernel
theorem dX8_lose_20 : decode cX8_lose 20 = .ok (.iconst 1, 1) := by decide +kernel
theorem dX8_lose_21 : decode cX8_lose 21 = .ok (.invokevirtual 129, 3) := by decide +kernel
theorem dX8_lose_24 : decode cX8_lose 24 = .ok (.ireturn, 1) := by decide +kernel
theorem dX8_lose_25 : decode cX8_lose 25 = .ok (.aload_n 0, 1) := by decide +kernel
theorem dX8_lose_26 : decode cX8_lose 26 = .ok (.getfield 90, 3) := by decide +kernel
theorem dX8_lose_29 : decode cX8_lose 29 = .ok (.iload_n 1, 1) := by decide +kernel
theorem dX8_lose_30 : decode cX8_lose 30 = .ok (.iconst 0, 1) := by decide +kernel
theorem dX8_lose_31 : decode cX8_lose 31 = .ok (.bastore, 1) := by decide +kernel
theorem dX8_lose_32 : decode cX8_lose 32 = .ok (.aload_n 0, 1) := by decide +kernel
theorem dX8_lose_33 : decode cX8_lose 33 = .ok (.getfield 96, 3) := by decide +kernel
theorem dX8_lose_36 : decode cX8_lose 36 = .ok (.iload_n 1, 1) := by decide +kernel
theorem dX8_lose_37 : decode cX8_lose 37 = .ok (.iaload, 1) := by decide +kernel
theorem dX8_lose_38 : decode cX8_lose 38 = .ok (.ireturn, 1) := by decide +kernel
set_option maxRecDepth 20000 in
theorem ggX8_lacks_X8_in : GoodIn wsX8_lacks wsX8_in := goodIn_r _ [7] (by decide +kernel) (by decide +kernel)
set_option maxRecDepth 20000 in
theorem gX8_lacks_X8_in : GoodIn wsX8_lacks (va_wsS RX8 108 yX8_in wsX8_in) := goodIn_app (goodIn_of _ (by decide +kernel)) ggX8_lacks_X8_in
theorem dX8_lacks_0 : decode cX8_lacks 0 = .ok (.aload_n 0, 1) := by decide +kernel
theorem dX8_lacks_1 : decode cX8_lacks 1 = .ok (.getfield 90, 3) := by decide +kernel
theorem dX8_lacks_4 : decode cX8_lacks 4 = .ok (.iload_n 1, 1) := by decide +kernel
theorem dX8_lacks_5 : decode cX8_lacks 5 = .ok (.baload, 1) := by decide +kernel
theorem dX8_lacks_6 : decode cX8_lacks 6 = .ok (.ifCond .ne 7, 3) := by decide +kernel
theorem dX8_lacks_9 : decode cX8_lacks 9 = .ok (.iconst 1, 1) := by decide +kernel
theorem dX8_lacks_10 : decode cX8_lacks 10 = .ok (.goto 38, 3) := by decide +kernel
theorem dX8_lacks_13 : decode cX8_lacks 13 = .ok (.aload_n 0, 1) := by decide +kernel
theorem dX8_lacks_14 : decode cX8_lacks 14 = .ok (.getfield 93, 3) := by decide +kernel
theorem dX8_lacks_17 : decode cX8_lacks 17 = .ok (.iload_n 1, 1) := by decide +kernel
theorem dX8_lacks_18 : decode cX8_lacks 18 = .ok (.iaload, 1) := by decide +kernel
theorem dX8_lacks_19 : decode cX8_lacks 19 = .ok (.iload_n 2, 1) := by decide +kernel
theorem dX8_lacks_20 : decode cX8_lacks 20 = .ok (.if_icmp .eq 7, 3) := by decide +kernel
theorem dX8_lacks_23 : decode cX8_lacks 23 = .ok (.iconst 3, 1) := by decide +kernel
theorem dX8_lacks_24 : decode cX8_lacks 24 = .ok (.goto 24, 3) := by decide +kernel
theorem dX8_lacks_27 : decode cX8_lacks 27 = .ok (.iload_n 3, 1) := by decide +kernel
theorem dX8_lacks_28 : decode cX8_lacks 28 = .ok (.iconst 0, 1) := by decide +kernel
theorem dX8_lacks_29 : decode cX8_lacks 29 = .ok (.aload_n 0, 1) := by decide +kernel
theorem dX8_lacks_30 : decode cX8_lacks 30 = .ok (.getfield 96, 3) := by decide +kernel
theorem dX8_lacks_33 : decode cX8_lacks 33 = .ok (.iload_n 1, 1) := by decide +kernel
theorem dX8_lacks_34 : decode cX8_lacks 34 = .ok (.iaload, 1) := by decide +kernel
theorem dX8_lacks_35 : decode cX8_lacks 35 = .ok (.iconst 1, 1) := by decide +kernel
theorem dX8_lacks_36 : decode cX8_lacks 36 = .ok (.isub, 1) := by decide +kernel
theorem dX8_lacks_37 : decode cX8_lacks 37 = .ok (.invokestatic 108, 3) := by decide +kernel
theorem dX8_lacks_40 : decode cX8_lacks 40 = .ok (.ifCond .eq 7, 3) := by decide +kernel
theorem dX8_lacks_43 : decode cX8_lacks 43 = .ok (.iconst 0, 1) := by decide +kernel
theorem dX8_lacks_44 : decode cX8_lacks 44 = .ok (.goto 4, 3) := by decide +kernel
theorem dX8_lacks_47 : decode cX8_lacks 47 = .ok (.iconst 2, 1) := by decide +kernel
theorem dX8_lacks_48 : decode cX8_lacks 48 = .ok (.ireturn, 1) := by decide +kernel
theorem dX8_lay_0 : decode cX8_lay 0 = .ok (.aload_n 0, 1) := by decide +kernel
theorem dX8_lay_1 : decode cX8_lay 1 = .ok (.getfield 99, 3) := by decide +kernel
theorem dX8_lay_4 : decode cX8_lay 4 = .ok (.bipush 60, 2) := by decide +kernel
theorem dX8_lay_6 : decode cX8_lay 6 = .ok (.iload_n 1, 1) := by decide +kernel
theorem dX8_lay_7 : decode cX8_lay 7 = .ok (.imul, 1) := by decide +kernel
theorem dX8_lay_8 : decode cX8_lay 8 = .ok (.iload_n 2, 1) := by decide +kernel
theorem dX8_lay_9 : decode cX8_lay 9 = .ok (.iadd, 1) := by decide +kernel
theorem dX8_lay_10 : decode cX8_lay 10 = .ok (.aload_n 0, 1) := by decide +kernel
theorem dX8_lay_11 : decode cX8_lay 11 = .ok (.getfield 93, 3) := by decide +kernel
theorem dX8_lay_14 : decode cX8_lay 14 = .ok (.iload_n 1, 1) := by decide +kernel
theorem dX8_lay_15 : decode cX8_lay 15 = .ok (.iaload, 1) := by decide +kernel
theorem dX8_lay_16 : decode cX8_lay 16 = .ok (.ifCond .ne 8, 3) := by decide +kernel
theorem dX8_lay_19 : decode cX8_lay 19 = .ok (.iload_n 3, 1) := by decide +kernel
theorem dX8_lay_20 : decode cX8_lay 20 = .ok (.i2b, 1) := by decide +kernel
theorem dX8_lay_21 : decode cX8_lay 21 = .ok (.goto 19, 3) := by decide +kernel
theorem dX8_lay_24 : decode cX8_lay 24 = .ok (.aload_n 0, 1) := by decide +kernel
theorem dX8_lay_25 : decode cX8_lay 25 = .ok (.getfield 93, 3) := by decide +kernel
theorem dX8_lay_28 : decode cX8_lay 28 = .ok (.iload_n 1, 1) := by decide +kernel
theorem dX8_lay_29 : decode cX8_lay 29 = .ok (.iaload, 1) := by decide +kernel
theorem dX8_lay_30 : decode cX8_lay 30 = .ok (.iconst 1, 1) := by decide +kernel
theorem dX8_lay_31 : decode cX8_lay 31 = .ok (.if_icmp .ne 8, 3) := by decide +kernel
theorem dX8_lay_34 : decode cX8_lay 34 = .ok (.iload_n 3, 1) := by decide +kernel
theorem dX8_lay_35 : decode cX8_lay 35 = .ok (.i2s, 1) := by decide +kernel
theorem dX8_lay_36 : decode cX8_lay 36 = .ok (.goto 4, 3) := by decide +kernel
theorem dX8_lay_39 : decode cX8_lay 39 = .ok (.iload_n 3, 1) := by decide +kernel
theorem dX8_lay_40 : decode cX8_lay 40 = .ok (.iastore, 1) := by decide +kernel
theorem dX8_lay_41 : decode cX8_lay 41 = .ok (.return_, 1) := by decide +kernel
set_option maxRecDepth 20000 in
theorem ggX8_put_X8_isSheet : GoodIn wsX8_put wsX8_isSheet := goodIn_r _ [4, 5, 6, 3, 7] (by decide +kernel) (by decide +kernel)
set_option maxRecDepth 20000 in
theorem gX8_put_X8_isSheet : GoodIn wsX8_put (va_wsS RX8 126 yX8_isSheet wsX8_isSheet) := goodIn_app (goodIn_of _ (by decide +kernel)) ggX8_put_X8_isSheet
set_option maxRecDepth 20000 in
theorem ggX8_put_X8_in : GoodIn wsX8_put wsX8_in := goodIn_r _ [7] (by decide +kernel) (by decide +kernel)
set_option maxRecDepth 20000 in
theorem gX8_put_X8_in : GoodIn wsX8_put (va_wsS RX8 108 yX8_in wsX8_in) := goodIn_app (goodIn_of _ (by decide +kernel)) ggX8_put_X8_in
set_option maxRecDepth 20000 in
theorem ggX8_put_X8_lacks : GoodIn wsX8_put wsX8_lacks := goodIn_r _ [11, 12, 13, 14, 5, 6, 3, 7, 25, 26, 27, 28, 29, 30, 31, 32, 33, 34, 35, 36, 37, 38, 39, 40, 41, 42, 43, 44, 45, 46, 47, 48, 49, 50, 51, 52, 53, 54, 55, 56, 57, 58, 59, 60, 61] (by decide +kernel) (by decide +kernel)
set_option maxRecDepth 20000 in
theorem gX8_put_X8_lacks : GoodIn wsX8_put (wsV RX8 175 RX8 yX8_lacks wsX8_lacks) := goodIn_app (goodIn_of _ (by decide +kernel)) ggX8_put_X8_lacks
set_option maxRecDepth 20000 in
theorem ggX8_put_X8_meets : GoodIn wsX8_put wsX8_meets := goodIn_r _ [18, 19, 25, 26, 27, 28, 29, 30, 31, 32, 33, 34, 35, 36, 37, 38, 39, 40, 41, 42, 43, 44, 45, 46, 47, 48, 49, 50, 51, 52, 53, 54, 55, 56, 57, 58, 59, 60, 61] (by decide +kernel) (by decide +kernel)
set_option maxRecDepth 20000 in
theorem gX8_put_X8_meets : GoodIn wsX8_put (wsV RX8 129 RX8 yX8_meets wsX8_meets) := goodIn_app (goodIn_of _ (by decide +kernel)) ggX8_put_X8_meets
set_option maxRecDepth 20000 in
theorem ggX8_put_X8_lay : GoodIn wsX8_put wsX8_lay := goodIn_r _ [23, 24, 13, 25, 26, 27, 28, 29, 30, 31, 32, 33, 34, 35, 36, 37, 38, 39, 40, 41, 42, 43, 44, 45, 46, 47, 48, 49, 50, 51, 52, 53, 54, 55, 56, 57, 58, 59, 60, 61] (by decide +kernel) (by decide +kernel)
set_option maxRecDepth 20000 in
theorem gX8_put_X8_lay : GoodIn wsX8_put (wsV RX8 179 RX8 yX8_lay wsX8_lay) := goodIn_app (goodIn_of _ (by decide +kernel)) ggX8_put_X8_lay
theorem dX8_put_0 : decode cX8_put 0 = .ok (.iload_n 1, 1) := by decide +kernel
theorem dX8_put_1 : decode cX8_put 1 = .ok (.invokestatic 126, 3) := by decide +kernel
theorem dX8_put_4 : decode cX8_put 4 = .ok (.ifCond .eq 12, 3) := by decide +kernel
theorem dX8_put_7 : decode cX8_put 7 = .ok (.iload_n 2, 1) := by decide +kernel
theorem dX8_put_8 : decode cX8_put 8 = .ok (.iconst 0, 1) := by decide +kernel
theorem dX8_put_9 : decode cX8_put 9 = .ok (.iconst 2, 1) := by decide +kernel
theorem dX8_put_10 : decode cX8_put 10 = .ok (.invokestatic 108, 3) := by decide +kernel
theorem dX8_put_13 : decode cX8_put 13 = .ok (.ifCond .ne 6, 3) := by decide +kernel
theorem dX8_put_16 : decode cX8_put 16 = .ok (.bipush (-2), 2) := by decide +kernel
theorem dX8_put_18 : decode cX8_put 18 = .ok (.ireturn, 1) := by decide +kernel
theorem dX8_put_19 : decode cX8_put 19 = .ok (.aload_n 0, 1) := by decide +kernel
theorem dX8_put_20 : decode cX8_put 20 = .ok (.iload_n 1, 1) := by decide +kernel
theorem dX8_put_21 : decode cX8_put 21 = .ok (.iload_n 2, 1) := by decide +kernel
theorem dX8_put_22 : decode cX8_put 22 = .ok (.iload_n 3, 1) := by decide +kernel
theorem dX8_put_23 : decode cX8_put 23 = .ok (.invokevirtual 175, 3) := by decide +kernel
theorem dX8_put_26 : decode cX8_put 26 = .ok (.istore 5, 2) := by decide +kernel
theorem dX8_put_28 : decode cX8_put 28 = .ok (.iload 5, 2) := by decide +kernel
theorem dX8_put_30 : decode cX8_put 30 = .ok (.ifCond .le 10, 3) := by decide +kernel
theorem dX8_put_33 : decode cX8_put 33 = .ok (.aload_n 0, 1) := by decide +kernel
theorem dX8_put_34 : decode cX8_put 34 = .ok (.iload 5, 2) := by decide +kernel
theorem dX8_put_36 : decode cX8_put 36 = .ok (.invokevirtual 129, 3) := by decide +kernel
theorem dX8_put_39 : decode cX8_put 39 = .ok (.ireturn, 1) := by decide +kernel
theorem dX8_put_40 : decode cX8_put 40 = .ok (.aload_n 0, 1) := by decide +kernel
theorem dX8_put_41 : decode cX8_put 41 = .ok (.iload_n 1, 1) := by decide +kernel
theorem dX8_put_42 : decode cX8_put 42 = .ok (.iload_n 3, 1) := by decide +kernel
theorem dX8_put_43 : decode cX8_put 43 = .ok (.iload 4, 2) := by decide +kernel
theorem dX8_put_45 : decode cX8_put 45 = .ok (.invokevirtual 179, 3) := by decide +kernel
theorem dX8_put_48 : decode cX8_put 48 = .ok (.iconst 1, 1) := by decide +kernel
theorem dX8_put_49 : decode cX8_put 49 = .ok (.ireturn, 1) := by decide +kernel
set_option maxRecDepth 20000 in
theorem ggX8_get_X8_isSheet : GoodIn wsX8_get wsX8_isSheet := goodIn_r _ [7, 8, 9, 6, 10] (by decide +kernel) (by decide +kernel)
set_option maxRecDepth 20000 in
theorem gX8_get_X8_isSheet : GoodIn wsX8_get (va_wsS RX8 126 yX8_isSheet wsX8_isSheet) := goodIn_app (goodIn_of _ (by decide +kernel)) ggX8_get_X8_isSheet
set_option maxRecDepth 20000 in
theorem ggX8_get_X8_in : GoodIn wsX8_get wsX8_in := goodIn_r _ [10] (by decide +kernel) (by decide +kernel)
set_option maxRecDepth 20000 in
theorem gX8_get_X8_in : GoodIn wsX8_get (va_wsS RX8 108 yX8_in wsX8_in) := goodIn_app (goodIn_of _ (by decide +kernel)) ggX8_get_X8_in
set_option maxRecDepth 20000 in
theorem ggX8_get_X8_lacks : GoodIn wsX8_get wsX8_lacks := goodIn_r _ [14, 15, 16, 17, 8, 9, 6, 10, 18, 19, 20, 21, 22, 23, 24, 25, 26, 27, 28, 29, 30, 31, 32, 33, 34, 35, 36, 37, 38, 39, 40, 41, 42, 43, 44, 45, 46, 47, 48, 49, 50, 51, 52, 53, 54] (by decide +kernel) (by decide +kernel)
set_option maxRecDepth 20000 in
theorem gX8_get_X8_lacks : GoodIn wsX8_get (wsV RX8 175 RX8 yX8_lacks wsX8_lacks) := goodIn_app (goodIn_of _ (by decide +kernel)) ggX8_get_X8_lacks
theorem dX8_get_0 : decode cX8_get 0 = .ok (.iload_n 1, 1) := by decide +kernel
theorem dX8_get_1 : decode cX8_get 1 = .ok (.invokestatic 126, 3) := by decide +kernel
theorem dX8_get_4 : decode cX8_get 4 = .ok (.ifCond .eq 12, 3) := by decide +kernel
theorem dX8_get_7 : decode cX8_get 7 = .ok (.iload_n 2, 1) := by decide +kernel
theorem dX8_get_8 : decode cX8_get 8 = .ok (.iconst 0, 1) := by decide +kernel
theorem dX8_get_9 : decode cX8_get 9 = .ok (.iconst 2, 1) := by decide +kernel
theorem dX8_get_10 : decode cX8_get 10 = .ok (.invokestatic 108, 3) := by decide +kernel
theorem dX8_get_13 : decode cX8_get 13 = .ok (.ifCond .ne 6, 3) := by decide +kernel
theorem dX8_get_16 : decode cX8_get 16 = .ok (.ldc 182, 2) := by decide +kernel
theorem dX8_get_18 : decode cX8_get 18 = .ok (.ireturn, 1) := by decide +kernel
theorem dX8_get_19 : decode cX8_get 19 = .ok (.aload_n 0, 1) := by decide +kernel
theorem dX8_get_20 : decode cX8_get 20 = .ok (.iload_n 1, 1) := by decide +kernel
theorem dX8_get_21 : decode cX8_get 21 = .ok (.iload_n 2, 1) := by decide +kernel
theorem dX8_get_22 : decode cX8_get 22 = .ok (.iload_n 3, 1) := by decide +kernel
theorem dX8_get_23 : decode cX8_get 23 = .ok (.invokevirtual 175, 3) := by decide +kernel
theorem dX8_get_26 : decode cX8_get 26 = .ok (.istore 4, 2) := by decide +kernel
theorem dX8_get_28 : decode cX8_get 28 = .ok (.iload 4, 2) := by decide +kernel
theorem dX8_get_30 : decode cX8_get 30 = .ok (.ifCond .le 12, 3) := by decide +kernel
theorem dX8_get_33 : decode cX8_get 33 = .ok (.aload_n 0, 1) := by decide +kernel
theorem dX8_get_34 : decode cX8_get 34 = .ok (.iload 4, 2) := by decide +kernel
theorem dX8_get_36 : decode cX8_get 36 = .ok (.putfield 172, 3) := by decide +kernel
theorem dX8_get_39 : decode cX8_get 39 = .ok (.ldc 182, 2) := by decide +kernel
theorem dX8_get_41 : decode cX8_get 41 = .ok (.ireturn, 1) := by decide +kernel
theorem dX8_get_42 : decode cX8_get 42 = .ok (.aload_n 0, 1) := by decide +kernel
theorem dX8_get_43 : decode cX8_get 43 = .ok (.getfield 99, 3) := by decide +kernel
theorem dX8_get_46 : decode cX8_get 46 = .ok (.bipush 60, 2) := by decide +kernel
theorem dX8_get_48 : decode cX8_get 48 = .ok (.iload_n 1, 1) := by decide +kernel
theorem dX8_get_49 : decode cX8_get 49 = .ok (.imul, 1) := by decide +kernel
theorem dX8_get_50 : decode cX8_get 50 = .ok (.iload_n 3, 1) := by decide +kernel
theorem dX8_get_51 : decode cX8_get 51 = .ok (.iadd, 1) := by decide +kernel
theorem dX8_get_52 : decode cX8_get 52 = .ok (.iaload, 1) := by decide +kernel
theorem dX8_get_53 : decode cX8_get 53 = .ok (.ireturn, 1) := by decide +kernel
set_option maxRecDepth 20000 in
theorem ggX8_copy_X8_isSheet : GoodIn wsX8_copy wsX8_isSheet := goodIn_r _ [9, 10, 11, 8, 12] (by decide +kernel) (by decide +kernel)
set_option maxRecDepth 20000 in
theorem gX8_copy_X8_isSheet : GoodIn wsX8_copy (va_wsS RX8 126 yX8_isSheet wsX8_isSheet) := goodIn_app (goodIn_of _ (by decide +kernel)) ggX8_copy_X8_isSheet
set_option maxRecDepth 20000 in
theorem ggX8_copy_X8_meets : GoodIn wsX8_copy wsX8_meets := goodIn_r _ [16, 17, 18, 19, 20, 21, 22, 23, 24, 25, 26, 27, 28, 29, 30, 31, 32, 33, 34, 35, 36, 37, 38, 39, 40, 41, 42, 43, 44, 45, 46, 47, 48, 49, 50, 51, 52, 53, 54] (by decide +kernel) (by decide +kernel)
set_option maxRecDepth 20000 in
theorem gX8_copy_X8_meets : GoodIn wsX8_copy (wsV RX8 129 RX8 yX8_meets wsX8_meets) := goodIn_app (goodIn_of _ (by decide +kernel)) ggX8_copy_X8_meets
theorem dX8_copy_0 : decode cX8_copy 0 = .ok (.iload_n 1, 1) := by decide +kernel
theorem dX8_copy_1 : decode cX8_copy 1 = .ok (.invokestatic 126, 3) := by decide +kernel
theorem dX8_copy_4 : decode cX8_copy 4 = .ok (.ifCond .eq 10, 3) := by decide +kernel
theorem dX8_copy_7 : decode cX8_copy 7 = .ok (.iload_n 3, 1) := by decide +kernel
theorem dX8_copy_8 : decode cX8_copy 8 = .ok (.invokestatic 126, 3) := by decide +kernel
theorem dX8_copy_11 : decode cX8_copy 11 = .ok (.ifCond .ne 6, 3) := by decide +kernel
theorem dX8_copy_14 : decode cX8_copy 14 = .ok (.bipush (-2), 2) := by decide +kernel
theorem dX8_copy_16 : decode cX8_copy 16 = .ok (.ireturn, 1) := by decide +kernel
theorem dX8_copy_17 : decode cX8_copy 17 = .ok (.aload_n 0, 1) := by decide +kernel
theorem dX8_copy_18 : decode cX8_copy 18 = .ok (.getfield 90, 3) := by decide +kernel
theorem dX8_copy_21 : decode cX8_copy 21 = .ok (.iload_n 1, 1) := by decide +kernel
theorem dX8_copy_22 : decode cX8_copy 22 = .ok (.baload, 1) := by decide +kernel
theorem dX8_copy_23 : decode cX8_copy 23 = .ok (.ifCond .eq 12, 3) := by decide +kernel
theorem dX8_copy_26 : decode cX8_copy 26 = .ok (.aload_n 0, 1) := by decide +kernel
theorem dX8_copy_27 : decode cX8_copy 27 = .ok (.getfield 90, 3) := by decide +kernel
theorem dX8_copy_30 : decode cX8_copy 30 = .ok (.iload_n 3, 1) := by decide +kernel
theorem dX8_copy_31 : decode cX8_copy 31 = .ok (.baload, 1) := by decide +kernel
theorem dX8_copy_32 : decode cX8_copy 32 = .ok (.ifCond .ne 9, 3) := by decide +kernel
theorem dX8_copy_35 : decode cX8_copy 35 = .ok (.aload_n 0, 1) := by decide +kernel
theorem dX8_copy_36 : decode cX8_copy 36 = .ok (.iconst 1, 1) := by decide +kernel
theorem dX8_copy_37 : decode cX8_copy 37 = .ok (.invokevirtual 129, 3) := by decide +kernel
theorem dX8_copy_40 : decode cX8_copy 40 = .ok (.ireturn, 1) := by decide +kernel
theorem dX8_copy_41 : decode cX8_copy 41 = .ok (.aload_n 0, 1) := by decide +kernel
theorem dX8_copy_42 : decode cX8_copy 42 = .ok (.getfield 93, 3) := by decide +kernel
theorem dX8_copy_45 : decode cX8_copy 45 = .ok (.iload_n 1, 1) := by decide +kernel
theorem dX8_copy_46 : decode cX8_copy 46 = .ok (.iaload, 1) := by decide +kernel
theorem dX8_copy_47 : decode cX8_copy 47 = .ok (.aload_n 0, 1) := by decide +kernel
theorem dX8_copy_48 : decode cX8_copy 48 = .ok (.getfield 93, 3) := by decide +kernel
theorem dX8_copy_51 : decode cX8_copy 51 = .ok (.iload_n 3, 1) := by decide +kernel
theorem dX8_copy_52 : decode cX8_copy 52 = .ok (.iaload, 1) := by decide +kernel
theorem dX8_copy_53 : decode cX8_copy 53 = .ok (.if_icmp .eq 9, 3) := by decide +kernel
theorem dX8_copy_56 : decode cX8_copy 56 = .ok (.aload_n 0, 1) := by decide +kernel
theorem dX8_copy_57 : decode cX8_copy 57 = .ok (.iconst 4, 1) := by decide +kernel
theorem dX8_copy_58 : decode cX8_copy 58 = .ok (.invokevirtual 129, 3) := by decide +kernel
theorem dX8_copy_61 : decode cX8_copy 61 = .ok (.ireturn, 1) := by decide +kernel
theorem dX8_copy_62 : decode cX8_copy 62 = .ok (.iload_n 2, 1) := by decide +kernel
theorem dX8_copy_63 : decode cX8_copy 63 = .ok (.ifCond .lt 48, 3) := by decide +kernel
theorem dX8_copy_66 : decode cX8_copy 66 = .ok (.iload 4, 2) := by decide +kernel
theorem dX8_copy_68 : decode cX8_copy 68 = .ok (.ifCond .lt 43, 3) := by decide +kernel
theorem dX8_copy_71 : decode cX8_copy 71 = .ok (.iload 5, 2) := by decide +kernel
theorem dX8_copy_73 : decode cX8_copy 73 = .ok (.ifCond .lt 38, 3) := by decide +kernel
theorem dX8_copy_76 : decode cX8_copy 76 = .ok (.iload_n 2, 1) := by decide +kernel
theorem dX8_copy_77 : decode cX8_copy 77 = .ok (.i2l, 1) := by decide +kernel
theorem dX8_copy_78 : decode cX8_copy 78 = .ok (.iload 5, 2) := by decide +kernel
theorem dX8_copy_80 : decode cX8_copy 80 = .ok (.i2l, 1) := by decide +kernel
theorem dX8_copy_81 : decode cX8_copy 81 = .ok (.ladd, 1) := by decide +kernel
theorem dX8_copy_82 : decode cX8_copy 82 = .ok (.aload_n 0, 1) := by decide +kernel
theorem dX8_copy_83 : decode cX8_copy 83 = .ok (.getfield 96, 3) := by decide +kernel
theorem dX8_copy_86 : decode cX8_copy 86 = .ok (.iload_n 1, 1) := by decide +kernel
theorem dX8_copy_87 : decode cX8_copy 87 = .ok (.iaload, 1) := by decide +kernel
theorem dX8_copy_88 : decode cX8_copy 88 = .ok (.i2l, 1) := by decide +kernel
theorem dX8_copy_89 : decode cX8_copy 89 = .ok (.lcmp, 1) := by decide +kernel
theorem dX8_copy_90 : decode cX8_copy 90 = .ok (.ifCond .gt 21, 3) := by decide +kernel
theorem dX8_copy_93 : decode cX8_copy 93 = .ok (.iload 4, 2) := by decide +kernel
theorem dX8_copy_95 : decode cX8_copy 95 = .ok (.i2l, 1) := by decide +kernel
theorem dX8_copy_96 : decode cX8_copy 96 = .ok (.iload 5, 2) := by decide +kernel
theorem dX8_copy_98 : decode cX8_copy 98 = .ok (.i2l, 1) := by decide +kernel
theorem dX8_copy_99 : decode cX8_copy 99 = .ok (.ladd, 1) := by decide +kernel
theorem dX8_copy_100 : decode cX8_copy 100 = .ok (.aload_n 0, 1) := by decide +kernel
theorem dX8_copy_101 : decode cX8_copy 101 = .ok (.getfield 96, 3) := by decide +kernel
theorem dX8_copy_104 : decode cX8_copy 104 = .ok (.iload_n 3, 1) := by decide +kernel
theorem dX8_copy_105 : decode cX8_copy 105 = .ok (.iaload, 1) := by decide +kernel
theorem dX8_copy_106 : decode cX8_copy 106 = .ok (.i2l, 1) := by decide +kernel
theorem dX8_copy_107 : decode cX8_copy 107 = .ok (.lcmp, 1) := by decide +kernel
theorem dX8_copy_108 : decode cX8_copy 108 = .ok (.ifCond .le 9, 3) := by decide +kernel
theorem dX8_copy_111 : decode cX8_copy 111 = .ok (.aload_n 0, 1) := by decide +kernel
theorem dX8_copy_112 : decode cX8_copy 112 = .ok (.iconst 2, 1) := by decide +kernel
theorem dX8_copy_113 : decode cX8_copy 113 = .ok (.invokevirtual 129, 3) := by decide +kernel
theorem dX8_copy_116 : decode cX8_copy 116 = .ok (.ireturn, 1) := by decide +kernel
theorem dX8_copy_117 : decode cX8_copy 117 = .ok (.iconst 0, 1) := by decide +kernel
theorem dX8_copy_118 : decode cX8_copy 118 = .ok (.istore 6, 2) := by decide +kernel
theorem dX8_copy_120 : decode cX8_copy 120 = .ok (.iload 6, 2) := by decide +kernel
theorem dX8_copy_122 : decode cX8_copy 122 = .ok (.iload 5, 2) := by decide +kernel
theorem dX8_copy_124 : decode cX8_copy 124 = .ok (.if_icmp .ge 30, 3) := by decide +kernel
theorem dX8_copy_127 : decode cX8_copy 127 = .ok (.aload_n 0, 1) := by decide +kernel
theorem dX8_copy_128 : decode cX8_copy 128 = .ok (.getfield 102, 3) := by decide +kernel
theorem dX8_copy_131 : decode cX8_copy 131 = .ok (.iload 6, 2) := by decide +kernel
theorem dX8_copy_133 : decode cX8_copy 133 = .ok (.aload_n 0, 1) := by decide +kernel
theorem dX8_copy_134 : decode cX8_copy 134 = .ok (.getfield 99, 3) := by decide +kernel
theorem dX8_copy_137 : decode cX8_copy 137 = .ok (.bipush 60, 2) := by decide +kernel
theorem dX8_copy_139 : decode cX8_copy 139 = .ok (.iload_n 1, 1) := by decide +kernel
theorem dX8_copy_140 : decode cX8_copy 140 = .ok (.imul, 1) := by decide +kernel
theorem dX8_copy_141 : decode cX8_copy 141 = .ok (.iload_n 2, 1) := by decide +kernel
theorem dX8_copy_142 : decode cX8_copy 142 = .ok (.iadd, 1) := by decide +kernel
theorem dX8_copy_143 : decode cX8_copy 143 = .ok (.iload 6, 2) := by decide +kernel
theorem dX8_copy_145 : decode cX8_copy 145 = .ok (.iadd, 1) := by decide +kernel
theorem dX8_copy_146 : decode cX8_copy 146 = .ok (.iaload, 1) := by decide +kernel
theorem dX8_copy_147 : decode cX8_copy 147 = .ok (.iastore, 1) := by decide +kernel
theorem dX8_copy_148 : decode cX8_copy 148 = .ok (.iinc 6 1, 3) := by decide +kernel
theorem dX8_copy_151 : decode cX8_copy 151 = .ok (.goto (-31), 3) := by decide +kernel
theorem dX8_copy_154 : decode cX8_copy 154 = .ok (.iconst 0, 1) := by decide +kernel
theorem dX8_copy_155 : decode cX8_copy 155 = .ok (.istore 6, 2) := by decide +kernel
theorem dX8_copy_157 : decode cX8_copy 157 = .ok (.iload 6, 2) := by decide +kernel
theorem dX8_copy_159 : decode cX8_copy 159 = .ok (.iload 5, 2) := by decide +kernel
theorem dX8_copy_161 : decode cX8_copy 161 = .ok (.if_icmp .ge 31, 3) := by decide +kernel
theorem dX8_copy_164 : decode cX8_copy 164 = .ok (.aload_n 0, 1) := by decide +kernel
theorem dX8_copy_165 : decode cX8_copy 165 = .ok (.getfield 99, 3) := by decide +kernel
theorem dX8_copy_168 : decode cX8_copy 168 = .ok (.bipush 60, 2) := by decide +kernel
theorem dX8_copy_170 : decode cX8_copy 170 = .ok (.iload_n 3, 1) := by decide +kernel
theorem dX8_copy_171 : decode cX8_copy 171 = .ok (.imul, 1) := by decide +kernel
theorem dX8_copy_172 : decode cX8_copy 172 = .ok (.iload 4, 2) := by decide +kernel
theorem dX8_copy_174 : decode cX8_copy 174 = .ok (.iadd, 1) := by decide +kernel
theorem dX8_copy_175 : decode cX8_copy 175 = .ok (.iload 6, 2) := by decide +kernel
theorem dX8_copy_177 : decode cX8_copy 177 = .ok (.iadd, 1) := by decide +kernel
theorem dX8_copy_178 : decode cX8_copy 178 = .ok (.aload_n 0, 1) := by decide +kernel
theorem dX8_copy_179 : decode cX8_copy 179 = .ok (.getfield 102, 3) := by decide +kernel
theorem dX8_copy_182 : decode cX8_copy 182 = .ok (.iload 6, 2) := by decide +kernel
theorem dX8_copy_184 : decode cX8_copy 184 = .ok (.iaload, 1) := by decide +kernel
theorem dX8_copy_185 : decode cX8_copy 185 = .ok (.iastore, 1) := by decide +kernel
theorem dX8_copy_186 : decode cX8_copy 186 = .ok (.iinc 6 1, 3) := by decide +kernel
theorem dX8_copy_189 : decode cX8_copy 189 = .ok (.goto (-32), 3) := by decide +kernel
theorem dX8_copy_192 : decode cX8_copy 192 = .ok (.iconst 1, 1) := by decide +kernel
theorem dX8_copy_193 : decode cX8_copy 193 = .ok (.ireturn, 1) := by decide +kernel
set_option maxRecDepth 20000 in
theorem ggX8_list_X8_isSheet : GoodIn wsX8_list wsX8_isSheet := goodIn_r _ [7, 8, 9, 6, 10] (by decide +kernel) (by decide +kernel)
set_option maxRecDepth 20000 in
theorem gX8_list_X8_isSheet : GoodIn wsX8_list (va_wsS RX8 126 yX8_isSheet wsX8_isSheet) := goodIn_app (goodIn_of _ (by decide +kernel)) ggX8_list_X8_isSheet
set_option maxRecDepth 20000 in
theorem ggX8_list_X8_in : GoodIn wsX8_list wsX8_in := goodIn_r _ [10] (by decide +kernel) (by decide +kernel)
set_option maxRecDepth 20000 in
theorem gX8_list_X8_in : GoodIn wsX8_list (va_wsS RX8 108 yX8_in wsX8_in) := goodIn_app (goodIn_of _ (by decide +kernel)) ggX8_list_X8_in
set_option maxRecDepth 20000 in
theorem ggX8_list_X8_meets : GoodIn wsX8_list wsX8_meets := goodIn_r _ [14, 15, 29, 30, 31, 32, 33, 34, 35, 36, 37, 38, 39, 40, 41, 42, 43, 44, 45, 46, 47, 48, 49, 50, 51, 52, 53, 54, 55, 56, 57, 58, 59, 60, 61, 62, 63, 64, 65] (by decide +kernel) (by decide +kernel)
set_option maxRecDepth 20000 in
theorem gX8_list_X8_meets : GoodIn wsX8_list (wsV RX8 129 RX8 yX8_meets wsX8_meets) := goodIn_app (goodIn_of _ (by decide +kernel)) ggX8_list_X8_meets
set_option maxRecDepth 20000 in
theorem ggX8_list_X8_is : GoodIn wsX8_list wsX8_is := goodIn_r _ [19, 20, 21, 22, 29, 30, 31, 32, 33, 34, 35, 36, 37, 38, 39, 40, 41, 42, 43, 44, 45, 46, 47, 48, 49, 50, 51, 52, 53, 54, 55, 56, 57, 58, 59, 60, 61, 62, 63, 64, 65] (by decide +kernel) (by decide +kernel)
set_option maxRecDepth 20000 in
theorem gX8_list_X8_is : GoodIn wsX8_list (wsV RX8 122 RX8 yX8_is wsX8_is) := goodIn_app (goodIn_of _ (by decide +kernel)) ggX8_list_X8_is
set_option maxRecDepth 20000 in
theorem ggX8_list_X8_lay : GoodIn wsX8_list wsX8_lay := goodIn_r _ [26, 27, 28, 29, 30, 31, 32, 33, 34, 35, 36, 37, 38, 39, 40, 41, 42, 43, 44, 45, 46, 47, 48, 49, 50, 51, 52, 53, 54, 55, 56, 57, 58, 59, 60, 61, 62, 63, 64, 65] (by decide +kernel) (by decide +kernel)
set_option maxRecDepth 20000 in
theorem gX8_list_X8_lay : GoodIn wsX8_list (wsV RX8 179 RX8 yX8_lay wsX8_lay) := goodIn_app (goodIn_of _ (by decide +kernel)) ggX8_list_X8_lay
theorem dX8_list_0 : decode cX8_list 0 = .ok (.iload_n 1, 1) := by decide +kernel
theorem dX8_list_1 : decode cX8_list 1 = .ok (.invokestatic 126, 3) := by decide +kernel
theorem dX8_list_4 : decode cX8_list 4 = .ok (.ifCond .eq 21, 3) := by decide +kernel
theorem dX8_list_7 : decode cX8_list 7 = .ok (.iload_n 2, 1) := by decide +kernel
theorem dX8_list_8 : decode cX8_list 8 = .ok (.iconst (-1), 1) := by decide +kernel
theorem dX8_list_9 : decode cX8_list 9 = .ok (.iconst 5, 1) := by decide +kernel
theorem dX8_list_10 : decode cX8_list 10 = .ok (.invokestatic 108, 3) := by decide +kernel
theorem dX8_list_13 : decode cX8_list 13 = .ok (.ifCond .eq 12, 3) := by decide +kernel
theorem dX8_list_16 : decode cX8_list 16 = .ok (.iload_n 3, 1) := by decide +kernel
theorem dX8_list_17 : decode cX8_list 17 = .ok (.iconst 0, 1) := by decide +kernel
theorem dX8_list_18 : decode cX8_list 18 = .ok (.iconst 4, 1) := by decide +kernel
theorem dX8_list_19 : decode cX8_list 19 = .ok (.invokestatic 108, 3) := by decide +kernel
theorem dX8_list_22 : decode cX8_list 22 = .ok (.ifCond .ne 6, 3) := by decide +kernel
theorem dX8_list_25 : decode cX8_list 25 = .ok (.bipush (-2), 2) := by decide +kernel
theorem dX8_list_27 : decode cX8_list 27 = .ok (.ireturn, 1) := by decide +kernel
theorem dX8_list_28 : decode cX8_list 28 = .ok (.aload_n 0, 1) := by decide +kernel
theorem dX8_list_29 : decode cX8_list 29 = .ok (.getfield 90, 3) := by decide +kernel
theorem dX8_list_32 : decode cX8_list 32 = .ok (.iload_n 1, 1) := by decide +kernel
theorem dX8_list_33 : decode cX8_list 33 = .ok (.baload, 1) := by decide +kernel
theorem dX8_list_34 : decode cX8_list 34 = .ok (.ifCond .ne 9, 3) := by decide +kernel
theorem dX8_list_37 : decode cX8_list 37 = .ok (.aload_n 0, 1) := by decide +kernel
theorem dX8_list_38 : decode cX8_list 38 = .ok (.iconst 1, 1) := by decide +kernel
theorem dX8_list_39 : decode cX8_list 39 = .ok (.invokevirtual 129, 3) := by decide +kernel
theorem dX8_list_42 : decode cX8_list 42 = .ok (.ireturn, 1) := by decide +kernel
theorem dX8_list_43 : decode cX8_list 43 = .ok (.iconst 0, 1) := by decide +kernel
theorem dX8_list_44 : decode cX8_list 44 = .ok (.istore 4, 2) := by decide +kernel
theorem dX8_list_46 : decode cX8_list 46 = .ok (.iconst 0, 1) := by decide +kernel
theorem dX8_list_47 : decode cX8_list 47 = .ok (.istore 5, 2) := by decide +kernel
theorem dX8_list_49 : decode cX8_list 49 = .ok (.iload 5, 2) := by decide +kernel
theorem dX8_list_51 : decode cX8_list 51 = .ok (.aload_n 0, 1) := by decide +kernel
theorem dX8_list_52 : decode cX8_list 52 = .ok (.getfield 112, 3) := by decide +kernel
theorem dX8_list_55 : decode cX8_list 55 = .ok (.if_icmp .ge 44, 3) := by decide +kernel
theorem dX8_list_58 : decode cX8_list 58 = .ok (.iload 4, 2) := by decide +kernel
theorem dX8_list_60 : decode cX8_list 60 = .ok (.aload_n 0, 1) := by decide +kernel
theorem dX8_list_61 : decode cX8_list 61 = .ok (.getfield 96, 3) := by decide +kernel
theorem dX8_list_64 : decode cX8_list 64 = .ok (.iload_n 1, 1) := by decide +kernel
theorem dX8_list_65 : decode cX8_list 65 = .ok (.iaload, 1) := by decide +kernel
theorem dX8_list_66 : decode cX8_list 66 = .ok (.if_icmp .ge 33, 3) := by decide +kernel
theorem dX8_list_69 : decode cX8_list 69 = .ok (.aload_n 0, 1) := by decide +kernel
theorem dX8_list_70 : decode cX8_list 70 = .ok (.iload 5, 2) := by decide +kernel
theorem dX8_list_72 : decode cX8_list 72 = .ok (.iload_n 2, 1) := by decide +kernel
theorem dX8_list_73 : decode cX8_list 73 = .ok (.iconst (-1), 1) := by decide +kernel
theorem dX8_list_74 : decode cX8_list 74 = .ok (.iload_n 3, 1) := by decide +kernel
theorem dX8_list_75 : decode cX8_list 75 = .ok (.invokevirtual 122, 3) := by decide +kernel
theorem dX8_list_78 : decode cX8_list 78 = .ok (.ifCond .eq 15, 3) := by decide +kernel
theorem dX8_list_81 : decode cX8_list 81 = .ok (.aload_n 0, 1) := by decide +kernel
theorem dX8_list_82 : decode cX8_list 82 = .ok (.iload_n 1, 1) := by decide +kernel
theorem dX8_list_83 : decode cX8_list 83 = .ok (.iload 4, 2) := by decide +kernel
theorem dX8_list_85 : decode cX8_list 85 = .ok (.iload 5, 2) := by decide +kernel
theorem dX8_list_87 : decode cX8_list 87 = .ok (.invokevirtual 179, 3) := by decide +kernel
theorem dX8_list_90 : decode cX8_list 90 = .ok (.iinc 4 1, 3) := by decide +kernel
theorem dX8_list_93 : decode cX8_list 93 = .ok (.iinc 5 1, 3) := by decide +kernel
theorem dX8_list_96 : decode cX8_list 96 = .ok (.goto (-47), 3) := by decide +kernel
theorem dX8_list_99 : decode cX8_list 99 = .ok (.iload 4, 2) := by decide +kernel
theorem dX8_list_101 : decode cX8_list 101 = .ok (.ireturn, 1) := by decide +kernel
theorem dX8_count_0 : decode cX8_count 0 = .ok (.iload_n 1, 1) := by decide +kernel
theorem dX8_count_1 : decode cX8_count 1 = .ok (.tableswitch 87 0 7 #[47, 52, 57, 62, 67, 72, 77, 82], 47) := by decide +kernel
theorem dX8_count_48 : decode cX8_count 48 = .ok (.aload_n 0, 1) := by decide +kernel
theorem dX8_count_49 : decode cX8_count 49 = .ok (.getfield 105, 3) := by decide +kernel
theorem dX8_count_52 : decode cX8_count 52 = .ok (.ireturn, 1) := by decide +kernel
theorem dX8_count_53 : decode cX8_count 53 = .ok (.aload_n 0, 1) := by decide +kernel
theorem dX8_count_54 : decode cX8_count 54 = .ok (.getfield 112, 3) := by decide +kernel
theorem dX8_count_57 : decode cX8_count 57 = .ok (.ireturn, 1) := by decide +kernel
theorem dX8_count_58 : decode cX8_count 58 = .ok (.aload_n 0, 1) := by decide +kernel
theorem dX8_count_59 : decode cX8_count 59 = .ok (.getfield 133, 3) := by decide +kernel
theorem dX8_count_62 : decode cX8_count 62 = .ok (.ireturn, 1) := by decide +kernel
theorem dX8_count_63 : decode cX8_count 63 = .ok (.aload_n 0, 1) := by decide +kernel
theorem dX8_count_64 : decode cX8_count 64 = .ok (.getfield 56, 3) := by decide +kernel
theorem dX8_count_67 : decode cX8_count 67 = .ok (.ireturn, 1) := by decide +kernel
theorem dX8_count_68 : decode cX8_count 68 = .ok (.aload_n 0, 1) := by decide +kernel
theorem dX8_count_69 : decode cX8_count 69 = .ok (.getfield 60, 3) := by decide +kernel
theorem dX8_count_72 : decode cX8_count 72 = .ok (.ireturn, 1) := by decide +kernel
theorem dX8_count_73 : decode cX8_count 73 = .ok (.aload_n 0, 1) := by decide +kernel
theorem dX8_count_74 : decode cX8_count 74 = .ok (.getfield 63, 3) := by decide +kernel
theorem dX8_count_77 : decode cX8_count 77 = .ok (.ireturn, 1) := by decide +kernel
theorem dX8_count_78 : decode cX8_count 78 = .ok (.aload_n 0, 1) := by decide +kernel
theorem dX8_count_79 : decode cX8_count 79 = .ok (.getfield 172, 3) := by decide +kernel
theorem dX8_count_82 : decode cX8_count 82 = .ok (.ireturn, 1) := by decide +kernel
theorem dX8_count_83 : decode cX8_count 83 = .ok (.aload_n 0, 1) := by decide +kernel
theorem dX8_count_84 : decode cX8_count 84 = .ok (.getfield 169, 3) := by decide +kernel
theorem dX8_count_87 : decode cX8_count 87 = .ok (.ireturn, 1) := by decide +kernel
theorem dX8_count_88 : decode cX8_count 88 = .ok (.bipush (-2), 2) := by decide +kernel
theorem dX8_count_90 : decode cX8_count 90 = .ok (.ireturn, 1) := by decide +kernel
set_option maxRecDepth 20000 in
theorem ggX8_digest_X8_count : GoodIn wsX8_digest wsX8_count := goodIn_r _ [11, 12, 3, 4, 13, 14, 15, 16, 17, 35, 36, 37, 38, 39, 40, 41, 42, 43, 44, 45, 46, 47, 48, 49, 50, 51, 52, 53, 54, 55, 56, 57, 58, 59, 60, 61, 62, 63, 64, 65, 66, 67, 68, 69, 70, 71] (by decide +kernel) (by decide +kernel)
set_option maxRecDepth 20000 in
theorem gX8_digest_X8_count : GoodIn wsX8_digest (wsV RX8 187 RX8 yX8_count wsX8_count) := goodIn_app (goodIn_of _ (by decide +kernel)) ggX8_digest_X8_count
set_option maxRecDepth 20000 in
theorem ggX8_digest_X8_about : GoodIn wsX8_digest wsX8_about := goodIn_r _ [21, 22, 23, 24, 25, 26, 27, 28, 29, 30, 10, 31, 3, 32, 33, 34, 35, 36, 37, 38, 39, 40, 41, 42, 43, 44, 45, 46, 47, 48, 49, 50, 51, 52, 53, 54, 55, 56, 57, 58, 59, 60, 61, 62, 63, 64, 65, 66, 67, 68, 69, 70, 71] (by decide +kernel) (by decide +kernel)
set_option maxRecDepth 20000 in
theorem gX8_digest_X8_about : GoodIn wsX8_digest (wsV RX8 190 RX8 yX8_about wsX8_about) := goodIn_app (goodIn_of _ (by decide +kernel)) ggX8_digest_X8_about
theorem dX8_digest_0 : decode cX8_digest 0 = .ok (.ldc2_w 183, 3) := by decide +kernel
theorem dX8_digest_3 : decode cX8_digest 3 = .ok (.lstore_n 1, 1) := by decide +kernel
theorem dX8_digest_4 : decode cX8_digest 4 = .ok (.iconst 0, 1) := by decide +kernel
theorem dX8_digest_5 : decode cX8_digest 5 = .ok (.istore_n 3, 1) := by decide +kernel
theorem dX8_digest_6 : decode cX8_digest 6 = .ok (.iload_n 3, 1) := by decide +kernel
theorem dX8_digest_7 : decode cX8_digest 7 = .ok (.bipush 8, 2) := by decide +kernel
theorem dX8_digest_9 : decode cX8_digest 9 = .ok (.if_icmp .ge 32, 3) := by decide +kernel
theorem dX8_digest_12 : decode cX8_digest 12 = .ok (.iload_n 3, 1) := by decide +kernel
theorem dX8_digest_13 : decode cX8_digest 13 = .ok (.bipush 6, 2) := by decide +kernel
theorem dX8_digest_15 : decode cX8_digest 15 = .ok (.if_icmp .ne 7, 3) := by decide +kernel
theorem dX8_digest_18 : decode cX8_digest 18 = .ok (.lload_n 1, 1) := by decide +kernel
theorem dX8_digest_19 : decode cX8_digest 19 = .ok (.goto 15, 3) := by decide +kernel
theorem dX8_digest_22 : decode cX8_digest 22 = .ok (.ldc2_w 185, 3) := by decide +kernel
theorem dX8_digest_25 : decode cX8_digest 25 = .ok (.lload_n 1, 1) := by decide +kernel
theorem dX8_digest_26 : decode cX8_digest 26 = .ok (.lmul, 1) := by decide +kernel
theorem dX8_digest_27 : decode cX8_digest 27 = .ok (.aload_n 0, 1) := by decide +kernel
theorem dX8_digest_28 : decode cX8_digest 28 = .ok (.iload_n 3, 1) := by decide +kernel
theorem dX8_digest_29 : decode cX8_digest 29 = .ok (.invokevirtual 187, 3) := by decide +kernel
theorem dX8_digest_32 : decode cX8_digest 32 = .ok (.i2l, 1) := by decide +kernel
theorem dX8_digest_33 : decode cX8_digest 33 = .ok (.ladd, 1) := by decide +kernel
theorem dX8_digest_34 : decode cX8_digest 34 = .ok (.lstore_n 1, 1) := by decide +kernel
theorem dX8_digest_35 : decode cX8_digest 35 = .ok (.iinc 3 1, 3) := by decide +kernel
theorem dX8_digest_38 : decode cX8_digest 38 = .ok (.goto (-32), 3) := by decide +kernel
theorem dX8_digest_41 : decode cX8_digest 41 = .ok (.iconst 0, 1) := by decide +kernel
theorem dX8_digest_42 : decode cX8_digest 42 = .ok (.istore_n 3, 1) := by decide +kernel
theorem dX8_digest_43 : decode cX8_digest 43 = .ok (.iload_n 3, 1) := by decide +kernel
theorem dX8_digest_44 : decode cX8_digest 44 = .ok (.aload_n 0, 1) := by decide +kernel
theorem dX8_digest_45 : decode cX8_digest 45 = .ok (.getfield 112, 3) := by decide +kernel
theorem dX8_digest_48 : decode cX8_digest 48 = .ok (.if_icmp .ge 40, 3) := by decide +kernel
theorem dX8_digest_51 : decode cX8_digest 51 = .ok (.iconst 2, 1) := by decide +kernel
theorem dX8_digest_52 : decode cX8_digest 52 = .ok (.istore 4, 2) := by decide +kernel
theorem dX8_digest_54 : decode cX8_digest 54 = .ok (.iload 4, 2) := by decide +kernel
theorem dX8_digest_56 : decode cX8_digest 56 = .ok (.bipush 6, 2) := by decide +kernel
theorem dX8_digest_58 : decode cX8_digest 58 = .ok (.if_icmp .ge 24, 3) := by decide +kernel
theorem dX8_digest_61 : decode cX8_digest 61 = .ok (.ldc2_w 185, 3) := by decide +kernel
theorem dX8_digest_64 : decode cX8_digest 64 = .ok (.lload_n 1, 1) := by decide +kernel
theorem dX8_digest_65 : decode cX8_digest 65 = .ok (.lmul, 1) := by decide +kernel
theorem dX8_digest_66 : decode cX8_digest 66 = .ok (.aload_n 0, 1) := by decide +kernel
theorem dX8_digest_67 : decode cX8_digest 67 = .ok (.iload_n 3, 1) := by decide +kernel
theorem dX8_digest_68 : decode cX8_digest 68 = .ok (.iload 4, 2) := by decide +kernel
theorem dX8_digest_70 : decode cX8_digest 70 = .ok (.invokevirtual 190, 3) := by decide +kernel
theorem dX8_digest_73 : decode cX8_digest 73 = .ok (.i2l, 1) := by decide +kernel
theorem dX8_digest_74 : decode cX8_digest 74 = .ok (.ladd, 1) := by decide +kernel
theorem dX8_digest_75 : decode cX8_digest 75 = .ok (.lstore_n 1, 1) := by decide +kernel
theorem dX8_digest_76 : decode cX8_digest 76 = .ok (.iinc 4 1, 3) := by decide +kernel
theorem dX8_digest_79 : decode cX8_digest 79 = .ok (.goto (-25), 3) := by decide +kernel
theorem dX8_digest_82 : decode cX8_digest 82 = .ok (.iinc 3 1, 3) := by decide +kernel
theorem dX8_digest_85 : decode cX8_digest 85 = .ok (.goto (-42), 3) := by decide +kernel
theorem dX8_digest_88 : decode cX8_digest 88 = .ok (.iconst 0, 1) := by decide +kernel
theorem dX8_digest_89 : decode cX8_digest 89 = .ok (.istore_n 3, 1) := by decide +kernel
theorem dX8_digest_90 : decode cX8_digest 90 = .ok (.iload_n 3, 1) := by decide +kernel
theorem dX8_digest_91 : decode cX8_digest 91 = .ok (.aload_n 0, 1) := by decide +kernel
theorem dX8_digest_92 : decode cX8_digest 92 = .ok (.getfield 133, 3) := by decide +kernel
theorem dX8_digest_95 : decode cX8_digest 95 = .ok (.if_icmp .ge 23, 3) := by decide +kernel
theorem dX8_digest_98 : decode cX8_digest 98 = .ok (.ldc2_w 185, 3) := by decide +kernel
theorem dX8_digest_101 : decode cX8_digest 101 = .ok (.lload_n 1, 1) := by decide +kernel
theorem dX8_digest_102 : decode cX8_digest 102 = .ok (.lmul, 1) := by decide +kernel
theorem dX8_digest_103 : decode cX8_digest 103 = .ok (.aload_n 0, 1) := by decide +kernel
theorem dX8_digest_104 : decode cX8_digest 104 = .ok (.getfield 53, 3) := by decide +kernel
theorem dX8_digest_107 : decode cX8_digest 107 = .ok (.iload_n 3, 1) := by decide +kernel
theorem dX8_digest_108 : decode cX8_digest 108 = .ok (.iaload, 1) := by decide +kernel
theorem dX8_digest_109 : decode cX8_digest 109 = .ok (.i2l, 1) := by decide +kernel
theorem dX8_digest_110 : decode cX8_digest 110 = .ok (.ladd, 1) := by decide +kernel
theorem dX8_digest_111 : decode cX8_digest 111 = .ok (.lstore_n 1, 1) := by decide +kernel
theorem dX8_digest_112 : decode cX8_digest 112 = .ok (.iinc 3 1, 3) := by decide +kernel
theorem dX8_digest_115 : decode cX8_digest 115 = .ok (.goto (-25), 3) := by decide +kernel
theorem dX8_digest_118 : decode cX8_digest 118 = .ok (.iconst 0, 1) := by decide +kernel
theorem dX8_digest_119 : decode cX8_digest 119 = .ok (.istore_n 3, 1) := by decide +kernel
theorem dX8_digest_120 : decode cX8_digest 120 = .ok (.iload_n 3, 1) := by decide +kernel
theorem dX8_digest_121 : decode cX8_digest 121 = .ok (.bipush 7, 2) := by decide +kernel
theorem dX8_digest_123 : decode cX8_digest 123 = .ok (.if_icmp .ge 23, 3) := by decide +kernel
theorem dX8_digest_126 : decode cX8_digest 126 = .ok (.ldc2_w 185, 3) := by decide +kernel
theorem dX8_digest_129 : decode cX8_digest 129 = .ok (.lload_n 1, 1) := by decide +kernel
theorem dX8_digest_130 : decode cX8_digest 130 = .ok (.lmul, 1) := by decide +kernel
theorem dX8_digest_131 : decode cX8_digest 131 = .ok (.aload_n 0, 1) := by decide +kernel
theorem dX8_digest_132 : decode cX8_digest 132 = .ok (.getfield 81, 3) := by decide +kernel
theorem dX8_digest_135 : decode cX8_digest 135 = .ok (.iload_n 3, 1) := by decide +kernel
theorem dX8_digest_136 : decode cX8_digest 136 = .ok (.iaload, 1) := by decide +kernel
theorem dX8_digest_137 : decode cX8_digest 137 = .ok (.i2l, 1) := by decide +kernel
theorem dX8_digest_138 : decode cX8_digest 138 = .ok (.ladd, 1) := by decide +kernel
theorem dX8_digest_139 : decode cX8_digest 139 = .ok (.lstore_n 1, 1) := by decide +kernel
theorem dX8_digest_140 : decode cX8_digest 140 = .ok (.iinc 3 1, 3) := by decide +kernel
theorem dX8_digest_143 : decode cX8_digest 143 = .ok (.goto (-23), 3) := by decide +kernel
theorem dX8_digest_146 : decode cX8_digest 146 = .ok (.lload_n 1, 1) := by decide +kernel
theorem dX8_digest_147 : decode cX8_digest 147 = .ok (.lreturn, 1) := by decide +kernel
theorem dJ9_abs_0f7a4_0 : decode cJ9_abs_0f7a4 0 = .ok (.iload_n 0, 1) := by decide +kernel
theorem dJ9_abs_0f7a4_1 : decode cJ9_abs_0f7a4 1 = .ok (.ifCond .ge 8, 3) := by decide +kernel
theorem dJ9_abs_0f7a4_4 : decode cJ9_abs_0f7a4 4 = .ok (.iload_n 0, 1) := by decide +kernel
theorem dJ9_abs_0f7a4_5 : decode cJ9_abs_0f7a4 5 = .ok (.ineg, 1) := by decide +kernel
theorem dJ9_abs_0f7a4_6 : decode cJ9_abs_0f7a4 6 = .ok (.goto 4, 3) := by decide +kernel
theorem dJ9_abs_0f7a4_9 : decode cJ9_abs_0f7a4 9 = .ok (.iload_n 0, 1) := by decide +kernel
theorem dJ9_abs_0f7a4_10 : decode cJ9_abs_0f7a4 10 = .ok (.ireturn, 1) := by decide +kernel
theorem dJ9_max_7cf53_0 : decode cJ9_max_7cf53 0 = .ok (.iload_n 0, 1) := by decide +kernel
theorem dJ9_max_7cf53_1 : decode cJ9_max_7cf53 1 = .ok (.iload_n 1, 1) := by decide +kernel
theorem dJ9_max_7cf53_2 : decode cJ9_max_7cf53 2 = .ok (.if_icmp .lt 7, 3) := by decide +kernel
theorem dJ9_max_7cf53_5 : decode cJ9_max_7cf53 5 = .ok (.iload_n 0, 1) := by decide +kernel
theorem dJ9_max_7cf53_6 : decode cJ9_max_7cf53 6 = .ok (.goto 4, 3) := by decide +kernel
theorem dJ9_max_7cf53_9 : decode cJ9_max_7cf53 9 = .ok (.iload_n 1, 1) := by decide +kernel
theorem dJ9_max_7cf53_10 : decode cJ9_max_7cf53 10 = .ok (.ireturn, 1) := by decide +kernel
