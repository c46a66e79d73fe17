theorem dX12_plan_182 : decode cX12_plan 182 = .ok (.aload_n 0, 1) := by decide +kernel
theorem dX12_plan_183 : decode cX12_plan 183 = .ok (.getfield 36, 3) := by decide +kernel
theorem dX12_plan_186 : decode cX12_plan 186 = .ok (.iload 4, 2) := by decide +kernel
theorem dX12_plan_188 : decode cX12_plan 188 = .ok (.aload_n 0, 1) := by decide +kernel
theorem dX12_plan_189 : decode cX12_plan 189 = .ok (.getfield 24, 3) := by decide +kernel
theorem dX12_plan_192 : decode cX12_plan 192 = .ok (.bipush 40, 2) := by decide +kernel
theorem dX12_plan_194 : decode cX12_plan 194 = .ok (.iload_n 1, 1) := by decide +kernel
theorem dX12_plan_195 : decode cX12_plan 195 = .ok (.imul, 1) := by decide +kernel
theorem dX12_plan_196 : decode cX12_plan 196 = .ok (.iload_n 2, 1) := by decide +kernel
theorem dX12_plan_197 : decode cX12_plan 197 = .ok (.iadd, 1) := by decide +kernel
theorem dX12_plan_198 : decode cX12_plan 198 = .ok (.iconst 2, 1) := by decide +kernel
theorem dX12_plan_199 : decode cX12_plan 199 = .ok (.iload 4, 2) := by decide +kernel
theorem dX12_plan_201 : decode cX12_plan 201 = .ok (.imul, 1) := by decide +kernel
theorem dX12_plan_202 : decode cX12_plan 202 = .ok (.iadd, 1) := by decide +kernel
theorem dX12_plan_203 : decode cX12_plan 203 = .ok (.iaload, 1) := by decide +kernel
theorem dX12_plan_204 : decode cX12_plan 204 = .ok (.iastore, 1) := by decide +kernel
theorem dX12_plan_205 : decode cX12_plan 205 = .ok (.aload_n 0, 1) := by decide +kernel
theorem dX12_plan_206 : decode cX12_plan 206 = .ok (.getfield 39, 3) := by decide +kernel
theorem dX12_plan_209 : decode cX12_plan 209 = .ok (.iload 4, 2) := by decide +kernel
theorem dX12_plan_211 : decode cX12_plan 211 = .ok (.aload_n 0, 1) := by decide +kernel
theorem dX12_plan_212 : decode cX12_plan 212 = .ok (.getfield 24, 3) := by decide +kernel
theorem dX12_plan_215 : decode cX12_plan 215 = .ok (.bipush 40, 2) := by decide +kernel
theorem dX12_plan_217 : decode cX12_plan 217 = .ok (.iload_n 1, 1) := by decide +kernel
theorem dX12_plan_218 : decode cX12_plan 218 = .ok (.imul, 1) := by decide +kernel
theorem dX12_plan_219 : decode cX12_plan 219 = .ok (.iload_n 2, 1) := by decide +kernel
theorem dX12_plan_220 : decode cX12_plan 220 = .ok (.iadd, 1) := by decide +kernel
theorem dX12_plan_221 : decode cX12_plan 221 = .ok (.iconst 2, 1) := by decide +kernel
theorem dX12_plan_222 : decode cX12_plan 222 = .ok (.iload 4, 2) := by decide +kernel
theorem dX12_plan_224 : decode cX12_plan 224 = .ok (.imul, 1) := by decide +kernel
theorem dX12_plan_225 : decode cX12_plan 225 = .ok (.iadd, 1) := by decide +kernel
theorem dX12_plan_226 : decode cX12_plan 226 = .ok (.iconst 1, 1) := by decide +kernel
theorem dX12_plan_227 : decode cX12_plan 227 = .ok (.iadd, 1) := by decide +kernel
theorem dX12_plan_228 : decode cX12_plan 228 = .ok (.iaload, 1) := by decide +kernel
theorem dX12_plan_229 : decode cX12_plan 229 = .ok (.iastore, 1) := by decide +kernel
theorem dX12_plan_230 : decode cX12_plan 230 = .ok (.iinc 4 1, 3) := by decide +kernel
theorem dX12_plan_233 : decode cX12_plan 233 = .ok (.goto (-60), 3) := by decide +kernel
theorem dX12_plan_236 : decode cX12_plan 236 = .ok (.aload_n 0, 1) := by decide +kernel
theorem dX12_plan_237 : decode cX12_plan 237 = .ok (.invokevirtual 138, 3) := by decide +kernel
theorem dX12_plan_240 : decode cX12_plan 240 = .ok (.ireturn, 1) := by decide +kernel
set_option maxRecDepth 20000 in
theorem ggX12_best_X12_toStart : GoodIn wsX12_best wsX12_toStart := goodIn_r _ [12, 13, 14, 15, 16, 17, 18, 11, 19, 20, 21, 22, 23, 24, 25, 34, 35, 36, 37, 38, 39, 40, 41, 42, 43, 44, 45, 46, 47, 48, 49, 50, 51, 52, 53, 54, 55, 56, 57, 58, 59, 60, 61, 62, 63, 64, 65, 66, 67, 68, 69, 70, 71, 72, 73, 74, 75] (by decide +kernel) (by decide +kernel)
set_option maxRecDepth 20000 in
theorem gX12_best_X12_toStart : GoodIn wsX12_best (wsV RX12 131 RX12 yX12_toStart wsX12_toStart) := goodIn_app (goodIn_of _ (by decide +kernel)) ggX12_best_X12_toStart
set_option maxRecDepth 20000 in
theorem ggX12_best_X12_between : GoodIn wsX12_best wsX12_between := goodIn_r _ [29, 13, 14, 15, 16, 17, 18, 11, 19, 20, 21, 22, 23, 24, 25, 34, 35, 36, 37, 38, 39, 40, 41, 42, 43, 44, 45, 46, 47, 48, 49, 50, 51, 52, 53, 54, 55, 56, 57, 58, 59, 60, 61, 62, 63, 64, 65, 66, 67, 68, 69, 70, 71, 72, 73, 74, 75] (by decide +kernel) (by decide +kernel)
set_option maxRecDepth 20000 in
theorem gX12_best_X12_between : GoodIn wsX12_best (wsV RX12 134 RX12 yX12_between wsX12_between) := goodIn_app (goodIn_of _ (by decide +kernel)) ggX12_best_X12_between
set_option maxRecDepth 20000 in
theorem ggX12_best_X12_fromStart : GoodIn wsX12_best wsX12_fromStart := goodIn_r _ [33, 14, 15, 16, 17, 18, 11, 19, 13, 20, 21, 22, 23, 24, 25, 34, 35, 36, 37, 38, 39, 40, 41, 42, 43, 44, 45, 46, 47, 48, 49, 50, 51, 52, 53, 54, 55, 56, 57, 58, 59, 60, 61, 62, 63, 64, 65, 66, 67, 68, 69, 70, 71, 72, 73, 74, 75] (by decide +kernel) (by decide +kernel)
set_option maxRecDepth 20000 in
theorem gX12_best_X12_fromStart : GoodIn wsX12_best (wsV RX12 127 RX12 yX12_fromStart wsX12_fromStart) := goodIn_app (goodIn_of _ (by decide +kernel)) ggX12_best_X12_fromStart
theorem dX12_best_0 : decode cX12_best 0 = .ok (.aload_n 0, 1) := by decide +kernel
theorem dX12_best_1 : decode cX12_best 1 = .ok (.iconst 0, 1) := by decide +kernel
theorem dX12_best_2 : decode cX12_best 2 = .ok (.putfield 1, 3) := by decide +kernel
theorem dX12_best_5 : decode cX12_best 5 = .ok (.aload_n 0, 1) := by decide +kernel
theorem dX12_best_6 : decode cX12_best 6 = .ok (.getfield 105, 3) := by decide +kernel
theorem dX12_best_9 : decode cX12_best 9 = .ok (.ifCond .ne 6, 3) := by decide +kernel
theorem dX12_best_12 : decode cX12_best 12 = .ok (.ldc 137, 2) := by decide +kernel
theorem dX12_best_14 : decode cX12_best 14 = .ok (.ireturn, 1) := by decide +kernel
theorem dX12_best_15 : decode cX12_best 15 = .ok (.iconst 0, 1) := by decide +kernel
theorem dX12_best_16 : decode cX12_best 16 = .ok (.istore_n 1, 1) := by decide +kernel
theorem dX12_best_17 : decode cX12_best 17 = .ok (.iload_n 1, 1) := by decide +kernel
theorem dX12_best_18 : decode cX12_best 18 = .ok (.iconst 1, 1) := by decide +kernel
theorem dX12_best_19 : decode cX12_best 19 = .ok (.aload_n 0, 1) := by decide +kernel
theorem dX12_best_20 : decode cX12_best 20 = .ok (.getfield 105, 3) := by decide +kernel
theorem dX12_best_23 : decode cX12_best 23 = .ok (.ishl, 1) := by decide +kernel
theorem dX12_best_24 : decode cX12_best 24 = .ok (.if_icmp .ge 152, 3) := by decide +kernel
theorem dX12_best_27 : decode cX12_best 27 = .ok (.iconst 0, 1) := by decide +kernel
theorem dX12_best_28 : decode cX12_best 28 = .ok (.istore_n 2, 1) := by decide +kernel
theorem dX12_best_29 : decode cX12_best 29 = .ok (.iload_n 2, 1) := by decide +kernel
theorem dX12_best_30 : decode cX12_best 30 = .ok (.iconst 2, 1) := by decide +kernel
theorem dX12_best_31 : decode cX12_best 31 = .ok (.aload_n 0, 1) := by decide +kernel
theorem dX12_best_32 : decode cX12_best 32 = .ok (.getfield 105, 3) := by decide +kernel
theorem dX12_best_35 : decode cX12_best 35 = .ok (.imul, 1) := by decide +kernel
theorem dX12_best_36 : decode cX12_best 36 = .ok (.if_icmp .ge 134, 3) := by decide +kernel
theorem dX12_best_39 : decode cX12_best 39 = .ok (.iload_n 1, 1) := by decide +kernel
theorem dX12_best_40 : decode cX12_best 40 = .ok (.ifCond .ne 16, 3) := by decide +kernel
theorem dX12_best_43 : decode cX12_best 43 = .ok (.aload_n 0, 1) := by decide +kernel
theorem dX12_best_44 : decode cX12_best 44 = .ok (.iload_n 2, 1) := by decide +kernel
theorem dX12_best_45 : decode cX12_best 45 = .ok (.iconst 2, 1) := by decide +kernel
theorem dX12_best_46 : decode cX12_best 46 = .ok (.idiv, 1) := by decide +kernel
theorem dX12_best_47 : decode cX12_best 47 = .ok (.iload_n 2, 1) := by decide +kernel
theorem dX12_best_48 : decode cX12_best 48 = .ok (.iconst 2, 1) := by decide +kernel
theorem dX12_best_49 : decode cX12_best 49 = .ok (.irem, 1) := by decide +kernel
theorem dX12_best_50 : decode cX12_best 50 = .ok (.invokevirtual 131, 3) := by decide +kernel
theorem dX12_best_53 : decode cX12_best 53 = .ok (.goto 5, 3) := by decide +kernel
theorem dX12_best_56 : decode cX12_best 56 = .ok (.ldc 142, 2) := by decide +kernel
theorem dX12_best_58 : decode cX12_best 58 = .ok (.istore_n 3, 1) := by decide +kernel
theorem dX12_best_59 : decode cX12_best 59 = .ok (.iconst 0, 1) := by decide +kernel
theorem dX12_best_60 : decode cX12_best 60 = .ok (.istore 4, 2) := by decide +kernel
theorem dX12_best_62 : decode cX12_best 62 = .ok (.iload 4, 2) := by decide +kernel
theorem dX12_best_64 : decode cX12_best 64 = .ok (.iconst 2, 1) := by decide +kernel
theorem dX12_best_65 : decode cX12_best 65 = .ok (.aload_n 0, 1) := by decide +kernel
theorem dX12_best_66 : decode cX12_best 66 = .ok (.getfield 105, 3) := by decide +kernel
theorem dX12_best_69 : decode cX12_best 69 = .ok (.imul, 1) := by decide +kernel
theorem dX12_best_70 : decode cX12_best 70 = .ok (.if_icmp .ge 82, 3) := by decide +kernel
theorem dX12_best_73 : decode cX12_best 73 = .ok (.iload_n 1, 1) := by decide +kernel
theorem dX12_best_74 : decode cX12_best 74 = .ok (.iload 4, 2) := by decide +kernel
theorem dX12_best_76 : decode cX12_best 76 = .ok (.iconst 2, 1) := by decide +kernel
theorem dX12_best_77 : decode cX12_best 77 = .ok (.idiv, 1) := by decide +kernel
theorem dX12_best_78 : decode cX12_best 78 = .ok (.ishr, 1) := by decide +kernel
theorem dX12_best_79 : decode cX12_best 79 = .ok (.iconst 1, 1) := by decide +kernel
theorem dX12_best_80 : decode cX12_best 80 = .ok (.iand, 1) := by decide +kernel
theorem dX12_best_81 : decode cX12_best 81 = .ok (.iconst 1, 1) := by decide +kernel
theorem dX12_best_82 : decode cX12_best 82 = .ok (.if_icmp .ne 64, 3) := by decide +kernel
theorem dX12_best_85 : decode cX12_best 85 = .ok (.aload_n 0, 1) := by decide +kernel
theorem dX12_best_86 : decode cX12_best 86 = .ok (.iload_n 2, 1) := by decide +kernel
theorem dX12_best_87 : decode cX12_best 87 = .ok (.iconst 2, 1) := by decide +kernel
theorem dX12_best_88 : decode cX12_best 88 = .ok (.idiv, 1) := by decide +kernel
theorem dX12_best_89 : decode cX12_best 89 = .ok (.iload_n 2, 1) := by decide +kernel
theorem dX12_best_90 : decode cX12_best 90 = .ok (.iconst 2, 1) := by decide +kernel
theorem dX12_best_91 : decode cX12_best 91 = .ok (.irem, 1) := by decide +kernel
theorem dX12_best_92 : decode cX12_best 92 = .ok (.iload 4, 2) := by decide +kernel
theorem dX12_best_94 : decode cX12_best 94 = .ok (.iconst 2, 1) := by decide +kernel
theorem dX12_best_95 : decode cX12_best 95 = .ok (.idiv, 1) := by decide +kernel
theorem dX12_best_96 : decode cX12_best 96 = .ok (.iload 4, 2) := by decide +kernel
theorem dX12_best_98 : decode cX12_best 98 = .ok (.iconst 2, 1) := by decide +kernel
theorem dX12_best_99 : decode cX12_best 99 = .ok (.irem, 1) := by decide +kernel
theorem dX12_best_100 : decode cX12_best 100 = .ok (.invokevirtual 134, 3) := by decide +kernel
theorem dX12_best_103 : decode cX12_best 103 = .ok (.aload_n 0, 1) := by decide +kernel
theorem dX12_best_104 : decode cX12_best 104 = .ok (.getfield 42, 3) := by decide +kernel
theorem dX12_best_107 : decode cX12_best 107 = .ok (.bipush 16, 2) := by decide +kernel
theorem dX12_best_109 : decode cX12_best 109 = .ok (.iload_n 1, 1) := by decide +kernel
theorem dX12_best_110 : decode cX12_best 110 = .ok (.iconst 1, 1) := by decide +kernel
theorem dX12_best_111 : decode cX12_best 111 = .ok (.iload 4, 2) := by decide +kernel
theorem dX12_best_113 : decode cX12_best 113 = .ok (.iconst 2, 1) := by decide +kernel
theorem dX12_best_114 : decode cX12_best 114 = .ok (.idiv, 1) := by decide +kernel
theorem dX12_best_115 : decode cX12_best 115 = .ok (.ishl, 1) := by decide +kernel
theorem dX12_best_116 : decode cX12_best 116 = .ok (.iconst (-1), 1) := by decide +kernel
theorem dX12_best_117 : decode cX12_best 117 = .ok (.ixor, 1) := by decide +kernel
theorem dX12_best_118 : decode cX12_best 118 = .ok (.iand, 1) := by decide +kernel
theorem dX12_best_119 : decode cX12_best 119 = .ok (.imul, 1) := by decide +kernel
theorem dX12_best_120 : decode cX12_best 120 = .ok (.iload 4, 2) := by decide +kernel
theorem dX12_best_122 : decode cX12_best 122 = .ok (.iadd, 1) := by decide +kernel
theorem dX12_best_123 : decode cX12_best 123 = .ok (.iaload, 1) := by decide +kernel
theorem dX12_best_124 : decode cX12_best 124 = .ok (.iadd, 1) := by decide +kernel
theorem dX12_best_125 : decode cX12_best 125 = .ok (.istore 5, 2) := by decide +kernel
theorem dX12_best_127 : decode cX12_best 127 = .ok (.iload_n 3, 1) := by decide +kernel
theorem dX12_best_128 : decode cX12_best 128 = .ok (.ldc 142, 2) := by decide +kernel
theorem dX12_best_130 : decode cX12_best 130 = .ok (.if_icmp .eq 9, 3) := by decide +kernel
theorem dX12_best_133 : decode cX12_best 133 = .ok (.iload 5, 2) := by decide +kernel
theorem dX12_best_135 : decode cX12_best 135 = .ok (.iload_n 3, 1) := by decide +kernel
theorem dX12_best_136 : decode cX12_best 136 = .ok (.if_icmp .ge 8, 3) := by decide +kernel
theorem dX12_best_139 : decode cX12_best 139 = .ok (.iload 5, 2) := by decide +kernel
theorem dX12_best_141 : decode cX12_best 141 = .ok (.goto 4, 3) := by decide +kernel
theorem dX12_best_144 : decode cX12_best 144 = .ok (.iload_n 3, 1) := by decide +kernel
theorem dX12_best_145 : decode cX12_best 145 = .ok (.istore_n 3, 1) := by decide +kernel
theorem dX12_best_146 : decode cX12_best 146 = .ok (.iinc 4 1, 3) := by decide +kernel
theorem dX12_best_149 : decode cX12_best 149 = .ok (.goto (-87), 3) := by decide +kernel
theorem dX12_best_152 : decode cX12_best 152 = .ok (.aload_n 0, 1) := by decide +kernel
theorem dX12_best_153 : decode cX12_best 153 = .ok (.getfield 42, 3) := by decide +kernel
theorem dX12_best_156 : decode cX12_best 156 = .ok (.bipush 16, 2) := by decide +kernel
theorem dX12_best_158 : decode cX12_best 158 = .ok (.iload_n 1, 1) := by decide +kernel
theorem dX12_best_159 : decode cX12_best 159 = .ok (.imul, 1) := by decide +kernel
theorem dX12_best_160 : decode cX12_best 160 = .ok (.iload_n 2, 1) := by decide +kernel
theorem dX12_best_161 : decode cX12_best 161 = .ok (.iadd, 1) := by decide +kernel
theorem dX12_best_162 : decode cX12_best 162 = .ok (.iload_n 3, 1) := by decide +kernel
theorem dX12_best_163 : decode cX12_best 163 = .ok (.iastore, 1) := by decide +kernel
theorem dX12_best_164 : decode cX12_best 164 = .ok (.iinc 2 1, 3) := by decide +kernel
theorem dX12_best_167 : decode cX12_best 167 = .ok (.goto (-138), 3) := by decide +kernel
theorem dX12_best_170 : decode cX12_best 170 = .ok (.iinc 1 1, 3) := by decide +kernel
theorem dX12_best_173 : decode cX12_best 173 = .ok (.goto (-156), 3) := by decide +kernel
theorem dX12_best_176 : decode cX12_best 176 = .ok (.iconst 1, 1) := by decide +kernel
theorem dX12_best_177 : decode cX12_best 177 = .ok (.aload_n 0, 1) := by decide +kernel
theorem dX12_best_178 : decode cX12_best 178 = .ok (.getfield 105, 3) := by decide +kernel
theorem dX12_best_181 : decode cX12_best 181 = .ok (.ishl, 1) := by decide +kernel
theorem dX12_best_182 : decode cX12_best 182 = .ok (.iconst 1, 1) := by decide +kernel
theorem dX12_best_183 : decode cX12_best 183 = .ok (.isub, 1) := by decide +kernel
theorem dX12_best_184 : decode cX12_best 184 = .ok (.istore_n 1, 1) := by decide +kernel
theorem dX12_best_185 : decode cX12_best 185 = .ok (.ldc 142, 2) := by decide +kernel
theorem dX12_best_187 : decode cX12_best 187 = .ok (.istore_n 2, 1) := by decide +kernel
theorem dX12_best_188 : decode cX12_best 188 = .ok (.iconst 0, 1) := by decide +kernel
theorem dX12_best_189 : decode cX12_best 189 = .ok (.istore_n 3, 1) := by decide +kernel
theorem dX12_best_190 : decode cX12_best 190 = .ok (.iconst 0, 1) := by decide +kernel
theorem dX12_best_191 : decode cX12_best 191 = .ok (.istore 4, 2) := by decide +kernel
theorem dX12_best_193 : decode cX12_best 193 = .ok (.iload 4, 2) := by decide +kernel
theorem dX12_best_195 : decode cX12_best 195 = .ok (.aload_n 0, 1) := by decide +kernel
theorem dX12_best_196 : decode cX12_best 196 = .ok (.getfield 105, 3) := by decide +kernel
theorem dX12_best_199 : decode cX12_best 199 = .ok (.if_icmp .ge 181, 3) := by decide +kernel
theorem dX12_best_202 : decode cX12_best 202 = .ok (.ldc 142, 2) := by decide +kernel
theorem dX12_best_204 : decode cX12_best 204 = .ok (.istore 5, 2) := by decide +kernel
theorem dX12_best_206 : decode cX12_best 206 = .ok (.iconst 0, 1) := by decide +kernel
theorem dX12_best_207 : decode cX12_best 207 = .ok (.istore 6, 2) := by decide +kernel
theorem dX12_best_209 : decode cX12_best 209 = .ok (.iconst 0, 1) := by decide +kernel
theorem dX12_best_210 : decode cX12_best 210 = .ok (.istore 7, 2) := by decide +kernel
theorem dX12_best_212 : decode cX12_best 212 = .ok (.iload 7, 2) := by decide +kernel
theorem dX12_best_214 : decode cX12_best 214 = .ok (.iconst 2, 1) := by decide +kernel
theorem dX12_best_215 : decode cX12_best 215 = .ok (.aload_n 0, 1) := by decide +kernel
theorem dX12_best_216 : decode cX12_best 216 = .ok (.getfield 105, 3) := by decide +kernel
theorem dX12_best_219 : decode cX12_best 219 = .ok (.imul, 1) := by decide +kernel
theorem dX12_best_220 : decode cX12_best 220 = .ok (.if_icmp .ge 106, 3) := by decide +kernel
theorem dX12_best_223 : decode cX12_best 223 = .ok (.iload_n 1, 1) := by decide +kernel
theorem dX12_best_224 : decode cX12_best 224 = .ok (.iload 7, 2) := by decide +kernel
theorem dX12_best_226 : decode cX12_best 226 = .ok (.iconst 2, 1) := by decide +kernel
theorem dX12_best_227 : decode cX12_best 227 = .ok (.idiv, 1) := by decide +kernel
theorem dX12_best_228 : decode cX12_best 228 = .ok (.ishr, 1) := by decide +kernel
theorem dX12_best_229 : decode cX12_best 229 = .ok (.iconst 1, 1) := by decide +kernel
theorem dX12_best_230 : decode cX12_best 230 = .ok (.iand, 1) := by decide +kernel
theorem dX12_best_231 : decode cX12_best 231 = .ok (.iconst 1, 1) := by decide +kernel
theorem dX12_best_232 : decode cX12_best 232 = .ok (.if_icmp .ne 88, 3) := by decide +kernel
theorem dX12_best_235 : decode cX12_best 235 = .ok (.iload_n 2, 1) := by decide +kernel
theorem dX12_best_236 : decode cX12_best 236 = .ok (.ldc 142, 2) := by decide +kernel
theorem dX12_best_238 : decode cX12_best 238 = .ok (.if_icmp .ne 18, 3) := by decide +kernel
theorem dX12_best_241 : decode cX12_best 241 = .ok (.aload_n 0, 1) := by decide +kernel
theorem dX12_best_242 : decode cX12_best 242 = .ok (.iload 7, 2) := by decide +kernel
theorem dX12_best_244 : decode cX12_best 244 = .ok (.iconst 2, 1) := by decide +kernel
theorem dX12_best_245 : decode cX12_best 245 = .ok (.idiv, 1) := by decide +kernel
theorem dX12_best_246 : decode cX12_best 246 = .ok (.iload 7, 2) := by decide +kernel
theorem dX12_best_248 : decode cX12_best 248 = .ok (.iconst 2, 1) := by decide +kernel
theorem dX12_best_249 : decode cX12_best 249 = .ok (.irem, 1) := by decide +kernel
theorem dX12_best_250 : decode cX12_best 250 = .ok (.invokevirtual 127, 3) := by decide +kernel
theorem dX12_best_253 : decode cX12_best 253 = .ok (.goto 21, 3) := by decide +kernel
theorem dX12_best_256 : decode cX12_best 256 = .ok (.aload_n 0, 1) := by decide +kernel
theorem dX12_best_257 : decode cX12_best 257 = .ok (.iload_n 2, 1) := by decide +kernel
theorem dX12_best_258 : decode cX12_best 258 = .ok (.iconst 2, 1) := by decide +kernel
theorem dX12_best_259 : decode cX12_best 259 = .ok (.idiv, 1) := by decide +kernel
theorem dX12_best_260 : decode cX12_best 260 = .ok (.iload_n 2, 1) := by decide +kernel
theorem dX12_best_261 : decode cX12_best 261 = .ok (.iconst 2, 1) := by decide +kernel
theorem dX12_best_262 : decode cX12_best 262 = .ok (.irem, 1) := by decide +kernel
theorem dX12_best_263 : decode cX12_best 263 = .ok (.iload 7, 2) := by decide +kernel
theorem dX12_best_265 : decode cX12_best 265 = .ok (.iconst 2, 1) := by decide +kernel
theorem dX12_best_266 : decode cX12_best 266 = .ok (.idiv, 1) := by decide +kernel
theorem dX12_best_267 : decode cX12_best 267 = .ok (.iload 7, 2) := by decide +kernel
theorem dX12_best_269 : decode cX12_best 269 = .ok (.iconst 2, 1) := by decide +kernel
theorem dX12_best_270 : decode cX12_best 270 = .ok (.irem, 1) := by decide +kernel
theorem dX12_best_271 : decode cX12_best 271 = .ok (.invokevirtual 134, 3) := by decide +kernel
theorem dX12_best_274 : decode cX12_best 274 = .ok (.aload_n 0, 1) := by decide +kernel
theorem dX12_best_275 : decode cX12_best 275 = .ok (.getfield 42, 3) := by decide +kernel
theorem dX12_best_278 : decode cX12_best 278 = .ok (.bipush 16, 2) := by decide +kernel
theorem dX12_best_280 : decode cX12_best 280 = .ok (.iload_n 1, 1) := by decide +kernel
theorem dX12_best_281 : decode cX12_best 281 = .ok (.iconst 1, 1) := by decide +kernel
theorem dX12_best_282 : decode cX12_best 282 = .ok (.iload 7, 2) := by decide +kernel
theorem dX12_best_284 : decode cX12_best 284 = .ok (.iconst 2, 1) := by decide +kernel
theorem dX12_best_285 : decode cX12_best 285 = .ok (.idiv, 1) := by decide +kernel
theorem dX12_best_286 : decode cX12_best 286 = .ok (.ishl, 1) := by decide +kernel
theorem dX12_best_287 : decode cX12_best 287 = .ok (.iconst (-1), 1) := by decide +kernel
theorem dX12_best_288 : decode cX12_best 288 = .ok (.ixor, 1) := by decide +kernel
theorem dX12_best_289 : decode cX12_best 289 = .ok (.iand, 1) := by decide +kernel
theorem dX12_best_290 : decode cX12_best 290 = .ok (.imul, 1) := by decide +kernel
theorem dX12_best_291 : decode cX12_best 291 = .ok (.iload 7, 2) := by decide +kernel
theorem dX12_best_293 : decode cX12_best 293 = .ok (.iadd, 1) := by decide +kernel
theorem dX12_best_294 : decode cX12_best 294 = .ok (.iaload, 1) := by decide +kernel
theorem dX12_best_295 : decode cX12_best 295 = .ok (.iadd, 1) := by decide +kernel
theorem dX12_best_296 : decode cX12_best 296 = .ok (.istore 8, 2) := by decide +kernel
theorem dX12_best_298 : decode cX12_best 298 = .ok (.iload 5, 2) := by decide +kernel
theorem dX12_best_300 : decode cX12_best 300 = .ok (.ldc 142, 2) := by decide +kernel
theorem dX12_best_302 : decode cX12_best 302 = .ok (.if_icmp .eq 10, 3) := by decide +kernel
theorem dX12_best_305 : decode cX12_best 305 = .ok (.iload 8, 2) := by decide +kernel
theorem dX12_best_307 : decode cX12_best 307 = .ok (.iload 6, 2) := by decide +kernel
theorem dX12_best_309 : decode cX12_best 309 = .ok (.if_icmp .ge 11, 3) := by decide +kernel
theorem dX12_best_312 : decode cX12_best 312 = .ok (.iload 7, 2) := by decide +kernel
theorem dX12_best_314 : decode cX12_best 314 = .ok (.istore 5, 2) := by decide +kernel
theorem dX12_best_316 : decode cX12_best 316 = .ok (.iload 8, 2) := by decide +kernel
theorem dX12_best_318 : decode cX12_best 318 = .ok (.istore 6, 2) := by decide +kernel
theorem dX12_best_320 : decode cX12_best 320 = .ok (.iinc 7 1, 3) := by decide +kernel
theorem dX12_best_323 : decode cX12_best 323 = .ok (.goto (-111), 3) := by decide +kernel
theorem dX12_best_326 : decode cX12_best 326 = .ok (.iload 4, 2) := by decide +kernel
theorem dX12_best_328 : decode cX12_best 328 = .ok (.ifCond .ne 8, 3) := by decide +kernel
theorem dX12_best_331 : decode cX12_best 331 = .ok (.iload 6, 2) := by decide +kernel
theorem dX12_best_333 : decode cX12_best 333 = .ok (.goto 4, 3) := by decide +kernel
theorem dX12_best_336 : decode cX12_best 336 = .ok (.iload_n 3, 1) := by decide +kernel
theorem dX12_best_337 : decode cX12_best 337 = .ok (.istore_n 3, 1) := by decide +kernel
theorem dX12_best_338 : decode cX12_best 338 = .ok (.aload_n 0, 1) := by decide +kernel
theorem dX12_best_339 : decode cX12_best 339 = .ok (.getfield 36, 3) := by decide +kernel
theorem dX12_best_342 : decode cX12_best 342 = .ok (.iload 4, 2) := by decide +kernel
theorem dX12_best_344 : decode cX12_best 344 = .ok (.iload 5, 2) := by decide +kernel
theorem dX12_best_346 : decode cX12_best 346 = .ok (.iconst 2, 1) := by decide +kernel
theorem dX12_best_347 : decode cX12_best 347 = .ok (.idiv, 1) := by decide +kernel
theorem dX12_best_348 : decode cX12_best 348 = .ok (.iastore, 1) := by decide +kernel
theorem dX12_best_349 : decode cX12_best 349 = .ok (.aload_n 0, 1) := by decide +kernel
theorem dX12_best_350 : decode cX12_best 350 = .ok (.getfield 39, 3) := by decide +kernel
theorem dX12_best_353 : decode cX12_best 353 = .ok (.iload 4, 2) := by decide +kernel
theorem dX12_best_355 : decode cX12_best 355 = .ok (.iload 5, 2) := by decide +kernel
theorem dX12_best_357 : decode cX12_best 357 = .ok (.iconst 2, 1) := by decide +kernel
theorem dX12_best_358 : decode cX12_best 358 = .ok (.irem, 1) := by decide +kernel
theorem dX12_best_359 : decode cX12_best 359 = .ok (.iastore, 1) := by decide +kernel
theorem dX12_best_360 : decode cX12_best 360 = .ok (.iload_n 1, 1) := by decide +kernel
theorem dX12_best_361 : decode cX12_best 361 = .ok (.iconst 1, 1) := by decide +kernel
theorem dX12_best_362 : decode cX12_best 362 = .ok (.iload 5, 2) := by decide +kernel
theorem dX12_best_364 : decode cX12_best 364 = .ok (.iconst 2, 1) := by decide +kernel
theorem dX12_best_365 : decode cX12_best 365 = .ok (.idiv, 1) := by decide +kernel
theorem dX12_best_366 : decode cX12_best 366 = .ok (.ishl, 1) := by decide +kernel
theorem dX12_best_367 : decode cX12_best 367 = .ok (.iconst (-1), 1) := by decide +kernel
theorem dX12_best_368 : decode cX12_best 368 = .ok (.ixor, 1) := by decide +kernel
theorem dX12_best_369 : decode cX12_best 369 = .ok (.iand, 1) := by decide +kernel
theorem dX12_best_370 : decode cX12_best 370 = .ok (.istore_n 1, 1) := by decide +kernel
theorem dX12_best_371 : decode cX12_best 371 = .ok (.iload 5, 2) := by decide +kernel
theorem dX12_best_373 : decode cX12_best 373 = .ok (.istore_n 2, 1) := by decide +kernel
theorem dX12_best_374 : decode cX12_best 374 = .ok (.iinc 4 1, 3) := by decide +kernel
theorem dX12_best_377 : decode cX12_best 377 = .ok (.goto (-184), 3) := by decide +kernel
theorem dX12_best_380 : decode cX12_best 380 = .ok (.iload_n 3, 1) := by decide +kernel
theorem dX12_best_381 : decode cX12_best 381 = .ok (.ireturn, 1) := by decide +kernel
set_option maxRecDepth 20000 in
theorem ggX12_order_X12_in : GoodIn wsX12_order wsX12_in := goodIn_r _ [10] (by decide +kernel) (by decide +kernel)
set_option maxRecDepth 20000 in
theorem gX12_order_X12_in : GoodIn wsX12_order (va_wsS RX12 90 yX12_in wsX12_in) := goodIn_app (goodIn_of _ (by decide +kernel)) ggX12_order_X12_in
theorem dX12_order_0 : decode cX12_order 0 = .ok (.aload_n 0, 1) := by decide +kernel
theorem dX12_order_1 : decode cX12_order 1 = .ok (.iconst 0, 1) := by decide +kernel
theorem dX12_order_2 : decode cX12_order 2 = .ok (.putfield 1, 3) := by decide +kernel
theorem dX12_order_5 : decode cX12_order 5 = .ok (.iload_n 2, 1) := by decide +kernel
theorem dX12_order_6 : decode cX12_order 6 = .ok (.i2l, 1) := by decide +kernel
theorem dX12_order_7 : decode cX12_order 7 = .ok (.lconst 0, 1) := by decide +kernel
theorem dX12_order_8 : decode cX12_order 8 = .ok (.lconst 1, 1) := by decide +kernel
theorem dX12_order_9 : decode cX12_order 9 = .ok (.invokestatic 90, 3) := by decide +kernel
theorem dX12_order_12 : decode cX12_order 12 = .ok (.ifCond .ne 6, 3) := by decide +kernel
theorem dX12_order_15 : decode cX12_order 15 = .ok (.ldc 100, 2) := by decide +kernel
theorem dX12_order_17 : decode cX12_order 17 = .ok (.ireturn, 1) := by decide +kernel
theorem dX12_order_18 : decode cX12_order 18 = .ok (.iload_n 1, 1) := by decide +kernel
theorem dX12_order_19 : decode cX12_order 19 = .ok (.i2l, 1) := by decide +kernel
theorem dX12_order_20 : decode cX12_order 20 = .ok (.lconst 0, 1) := by decide +kernel
theorem dX12_order_21 : decode cX12_order 21 = .ok (.aload_n 0, 1) := by decide +kernel
theorem dX12_order_22 : decode cX12_order 22 = .ok (.getfield 105, 3) := by decide +kernel
theorem dX12_order_25 : decode cX12_order 25 = .ok (.iconst 1, 1) := by decide +kernel
theorem dX12_order_26 : decode cX12_order 26 = .ok (.isub, 1) := by decide +kernel
theorem dX12_order_27 : decode cX12_order 27 = .ok (.i2l, 1) := by decide +kernel
theorem dX12_order_28 : decode cX12_order 28 = .ok (.invokestatic 90, 3) := by decide +kernel
theorem dX12_order_31 : decode cX12_order 31 = .ok (.ifCond .ne 8, 3) := by decide +kernel
theorem dX12_order_34 : decode cX12_order 34 = .ok (.ldc 142, 2) := by decide +kernel
theorem dX12_order_36 : decode cX12_order 36 = .ok (.goto 22, 3) := by decide +kernel
theorem dX12_order_39 : decode cX12_order 39 = .ok (.iload_n 2, 1) := by decide +kernel
theorem dX12_order_40 : decode cX12_order 40 = .ok (.ifCond .ne 12, 3) := by decide +kernel
theorem dX12_order_43 : decode cX12_order 43 = .ok (.aload_n 0, 1) := by decide +kernel
theorem dX12_order_44 : decode cX12_order 44 = .ok (.getfield 36, 3) := by decide +kernel
theorem dX12_order_47 : decode cX12_order 47 = .ok (.iload_n 1, 1) := by decide +kernel
theorem dX12_order_48 : decode cX12_order 48 = .ok (.iaload, 1) := by decide +kernel
theorem dX12_order_49 : decode cX12_order 49 = .ok (.goto 9, 3) := by decide +kernel
theorem dX12_order_52 : decode cX12_order 52 = .ok (.aload_n 0, 1) := by decide +kernel
theorem dX12_order_53 : decode cX12_order 53 = .ok (.getfield 39, 3) := by decide +kernel
theorem dX12_order_56 : decode cX12_order 56 = .ok (.iload_n 1, 1) := by decide +kernel
theorem dX12_order_57 : decode cX12_order 57 = .ok (.iaload, 1) := by decide +kernel
theorem dX12_order_58 : decode cX12_order 58 = .ok (.ireturn, 1) := by decide +kernel
set_option maxRecDepth 20000 in
theorem ggX12_rule_X12_in : GoodIn wsX12_rule wsX12_in := goodIn_r _ [10] (by decide +kernel) (by decide +kernel)
set_option maxRecDepth 20000 in
theorem gX12_rule_X12_in : GoodIn wsX12_rule (va_wsS RX12 90 yX12_in wsX12_in) := goodIn_app (goodIn_of _ (by decide +kernel)) ggX12_rule_X12_in
theorem dX12_rule_0 : decode cX12_rule 0 = .ok (.aload_n 0, 1) := by decide +kernel
theorem dX12_rule_1 : decode cX12_rule 1 = .ok (.iconst 0, 1) := by decide +kernel
theorem dX12_rule_2 : decode cX12_rule 2 = .ok (.putfield 1, 3) := by decide +kernel
theorem dX12_rule_5 : decode cX12_rule 5 = .ok (.iload_n 1, 1) := by decide +kernel
theorem dX12_rule_6 : decode cX12_rule 6 = .ok (.ifCond .eq 8, 3) := by decide +kernel
theorem dX12_rule_9 : decode cX12_rule 9 = .ok (.iload_n 1, 1) := by decide +kernel
theorem dX12_rule_10 : decode cX12_rule 10 = .ok (.iconst 5, 1) := by decide +kernel
theorem dX12_rule_11 : decode cX12_rule 11 = .ok (.if_icmp .ne 15, 3) := by decide +kernel
theorem dX12_rule_14 : decode cX12_rule 14 = .ok (.iload_n 2, 1) := by decide +kernel
theorem dX12_rule_15 : decode cX12_rule 15 = .ok (.i2l, 1) := by decide +kernel
theorem dX12_rule_16 : decode cX12_rule 16 = .ok (.lconst 1, 1) := by decide +kernel
theorem dX12_rule_17 : decode cX12_rule 17 = .ok (.ldc2_w 111, 3) := by decide +kernel
theorem dX12_rule_20 : decode cX12_rule 20 = .ok (.invokestatic 90, 3) := by decide +kernel
theorem dX12_rule_23 : decode cX12_rule 23 = .ok (.goto 64, 3) := by decide +kernel
theorem dX12_rule_26 : decode cX12_rule 26 = .ok (.iload_n 1, 1) := by decide +kernel
theorem dX12_rule_27 : decode cX12_rule 27 = .ok (.iconst 1, 1) := by decide +kernel
theorem dX12_rule_28 : decode cX12_rule 28 = .ok (.if_icmp .eq 8, 3) := by decide +kernel
theorem dX12_rule_31 : decode cX12_rule 31 = .ok (.iload_n 1, 1) := by decide +kernel
theorem dX12_rule_32 : decode cX12_rule 32 = .ok (.iconst 4, 1) := by decide +kernel
theorem dX12_rule_33 : decode cX12_rule 33 = .ok (.if_icmp .ne 15, 3) := by decide +kernel
theorem dX12_rule_36 : decode cX12_rule 36 = .ok (.iload_n 2, 1) := by decide +kernel
theorem dX12_rule_37 : decode cX12_rule 37 = .ok (.i2l, 1) := by decide +kernel
theorem dX12_rule_38 : decode cX12_rule 38 = .ok (.lconst 0, 1) := by decide +kernel
theorem dX12_rule_39 : decode cX12_rule 39 = .ok (.ldc2_w 143, 3) := by decide +kernel
theorem dX12_rule_42 : decode cX12_rule 42 = .ok (.invokestatic 90, 3) := by decide +kernel
theorem dX12_rule_45 : decode cX12_rule 45 = .ok (.goto 42, 3) := by decide +kernel
theorem dX12_rule_48 : decode cX12_rule 48 = .ok (.iload_n 1, 1) := by decide +kernel
theorem dX12_rule_49 : decode cX12_rule 49 = .ok (.iconst 2, 1) := by decide +kernel
theorem dX12_rule_50 : decode cX12_rule 50 = .ok (.if_icmp .ne 15, 3) := by decide +kernel
theorem dX12_rule_53 : decode cX12_rule 53 = .ok (.iload_n 2, 1) := by decide +kernel
theorem dX12_rule_54 : decode cX12_rule 54 = .ok (.i2l, 1) := by decide +kernel
theorem dX12_rule_55 : decode cX12_rule 55 = .ok (.lconst 1, 1) := by decide +kernel
theorem dX12_rule_56 : decode cX12_rule 56 = .ok (.ldc2_w 145, 3) := by decide +kernel
theorem dX12_rule_59 : decode cX12_rule 59 = .ok (.invokestatic 90, 3) := by decide +kernel
theorem dX12_rule_62 : decode cX12_rule 62 = .ok (.goto 25, 3) := by decide +kernel
theorem dX12_rule_65 : decode cX12_rule 65 = .ok (.iload_n 1, 1) := by decide +kernel
theorem dX12_rule_66 : decode cX12_rule 66 = .ok (.iconst 3, 1) := by decide +kernel
theorem dX12_rule_67 : decode cX12_rule 67 = .ok (.if_icmp .ne 19, 3) := by decide +kernel
theorem dX12_rule_70 : decode cX12_rule 70 = .ok (.iload_n 2, 1) := by decide +kernel
theorem dX12_rule_71 : decode cX12_rule 71 = .ok (.i2l, 1) := by decide +kernel
theorem dX12_rule_72 : decode cX12_rule 72 = .ok (.lconst 0, 1) := by decide +kernel
theorem dX12_rule_73 : decode cX12_rule 73 = .ok (.ldc2_w 145, 3) := by decide +kernel
theorem dX12_rule_76 : decode cX12_rule 76 = .ok (.invokestatic 90, 3) := by decide +kernel
theorem dX12_rule_79 : decode cX12_rule 79 = .ok (.ifCond .eq 7, 3) := by decide +kernel
theorem dX12_rule_82 : decode cX12_rule 82 = .ok (.iconst 1, 1) := by decide +kernel
theorem dX12_rule_83 : decode cX12_rule 83 = .ok (.goto 4, 3) := by decide +kernel
theorem dX12_rule_86 : decode cX12_rule 86 = .ok (.iconst 0, 1) := by decide +kernel
theorem dX12_rule_87 : decode cX12_rule 87 = .ok (.istore_n 3, 1) := by decide +kernel
theorem dX12_rule_88 : decode cX12_rule 88 = .ok (.iload_n 3, 1) := by decide +kernel
theorem dX12_rule_89 : decode cX12_rule 89 = .ok (.ifCond .ne 6, 3) := by decide +kernel
theorem dX12_rule_92 : decode cX12_rule 92 = .ok (.ldc 100, 2) := by decide +kernel
theorem dX12_rule_94 : decode cX12_rule 94 = .ok (.ireturn, 1) := by decide +kernel
theorem dX12_rule_95 : decode cX12_rule 95 = .ok (.aload_n 0, 1) := by decide +kernel
theorem dX12_rule_96 : decode cX12_rule 96 = .ok (.getfield 45, 3) := by decide +kernel
theorem dX12_rule_99 : decode cX12_rule 99 = .ok (.iload_n 1, 1) := by decide +kernel
theorem dX12_rule_100 : decode cX12_rule 100 = .ok (.iaload, 1) := by decide +kernel
theorem dX12_rule_101 : decode cX12_rule 101 = .ok (.istore 4, 2) := by decide +kernel
theorem dX12_rule_103 : decode cX12_rule 103 = .ok (.aload_n 0, 1) := by decide +kernel
theorem dX12_rule_104 : decode cX12_rule 104 = .ok (.getfield 45, 3) := by decide +kernel
theorem dX12_rule_107 : decode cX12_rule 107 = .ok (.iload_n 1, 1) := by decide +kernel
theorem dX12_rule_108 : decode cX12_rule 108 = .ok (.iload_n 2, 1) := by decide +kernel
theorem dX12_rule_109 : decode cX12_rule 109 = .ok (.iastore, 1) := by decide +kernel
theorem dX12_rule_110 : decode cX12_rule 110 = .ok (.iload 4, 2) := by decide +kernel
theorem dX12_rule_112 : decode cX12_rule 112 = .ok (.ireturn, 1) := by decide +kernel
set_option maxRecDepth 20000 in
theorem ggX12_zone_X12_in : GoodIn wsX12_zone wsX12_in := goodIn_r _ [10] (by decide +kernel) (by decide +kernel)
set_option maxRecDepth 20000 in
theorem gX12_zone_X12_in : GoodIn wsX12_zone (va_wsS RX12 90 yX12_in wsX12_in) := goodIn_app (goodIn_of _ (by decide +kernel)) ggX12_zone_X12_in
theorem dX12_zone_0 : decode cX12_zone 0 = .ok (.aload_n 0, 1) := by decide +kernel
theorem dX12_zone_1 : decode cX12_zone 1 = .ok (.iconst 0, 1) := by decide +kernel
theorem dX12_zone_2 : decode cX12_zone 2 = .ok (.putfield 1, 3) := by decide +kernel
theorem dX12_zone_5 : decode cX12_zone 5 = .ok (.iload_n 1, 1) := by decide +kernel
theorem dX12_zone_6 : decode cX12_zone 6 = .ok (.i2l, 1) := by decide +kernel
theorem dX12_zone_7 : decode cX12_zone 7 = .ok (.lconst 0, 1) := by decide +kernel
theorem dX12_zone_8 : decode cX12_zone 8 = .ok (.ldc2_w 147, 3) := by decide +kernel
theorem dX12_zone_11 : decode cX12_zone 11 = .ok (.invokestatic 90, 3) := by decide +kernel
theorem dX12_zone_14 : decode cX12_zone 14 = .ok (.ifCond .eq 55, 3) := by decide +kernel
theorem dX12_zone_17 : decode cX12_zone 17 = .ok (.iload_n 2, 1) := by decide +kernel
theorem dX12_zone_18 : decode cX12_zone 18 = .ok (.i2l, 1) := by decide +kernel
theorem dX12_zone_19 : decode cX12_zone 19 = .ok (.lconst 0, 1) := by decide +kernel
theorem dX12_zone_20 : decode cX12_zone 20 = .ok (.ldc2_w 111, 3) := by decide +kernel
theorem dX12_zone_23 : decode cX12_zone 23 = .ok (.invokestatic 90, 3) := by decide +kernel
theorem dX12_zone_26 : decode cX12_zone 26 = .ok (.ifCond .eq 43, 3) := by decide +kernel
theorem dX12_zone_29 : decode cX12_zone 29 = .ok (.iload_n 3, 1) := by decide +kernel
theorem dX12_zone_30 : decode cX12_zone 30 = .ok (.i2l, 1) := by decide +kernel
theorem dX12_zone_31 : decode cX12_zone 31 = .ok (.lconst 0, 1) := by decide +kernel
theorem dX12_zone_32 : decode cX12_zone 32 = .ok (.ldc2_w 111, 3) := by decide +kernel
theorem dX12_zone_35 : decode cX12_zone 35 = .ok (.invokestatic 90, 3) := by decide +kernel
theorem dX12_zone_38 : decode cX12_zone 38 = .ok (.ifCond .eq 31, 3) := by decide +kernel
theorem dX12_zone_41 : decode cX12_zone 41 = .ok (.iload 4, 2) := by decide +kernel
theorem dX12_zone_43 : decode cX12_zone 43 = .ok (.i2l, 1) := by decide +kernel
theorem dX12_zone_44 : decode cX12_zone 44 = .ok (.iload_n 2, 1) := by decide +kernel
theorem dX12_zone_45 : decode cX12_zone 45 = .ok (.i2l, 1) := by decide +kernel
theorem dX12_zone_46 : decode cX12_zone 46 = .ok (.ldc2_w 111, 3) := by decide +kernel
theorem dX12_zone_49 : decode cX12_zone 49 = .ok (.invokestatic 90, 3) := by decide +kernel
theorem dX12_zone_52 : decode cX12_zone 52 = .ok (.ifCond .eq 17, 3) := by decide +kernel
theorem dX12_zone_55 : decode cX12_zone 55 = .ok (.iload 5, 2) := by decide +kernel
theorem dX12_zone_57 : decode cX12_zone 57 = .ok (.i2l, 1) := by decide +kernel
theorem dX12_zone_58 : decode cX12_zone 58 = .ok (.iload_n 3, 1) := by decide +kernel
theorem dX12_zone_59 : decode cX12_zone 59 = .ok (.i2l, 1) := by decide +kernel
theorem dX12_zone_60 : decode cX12_zone 60 = .ok (.ldc2_w 111, 3) := by decide +kernel
theorem dX12_zone_63 : decode cX12_zone 63 = .ok (.invokestatic 90, 3) := by decide +kernel
theorem dX12_zone_66 : decode cX12_zone 66 = .ok (.ifCond .ne 6, 3) := by decide +kernel
theorem dX12_zone_69 : decode cX12_zone 69 = .ok (.ldc 100, 2) := by decide +kernel
theorem dX12_zone_71 : decode cX12_zone 71 = .ok (.ireturn, 1) := by decide +kernel
theorem dX12_zone_72 : decode cX12_zone 72 = .ok (.aload_n 0, 1) := by decide +kernel
theorem dX12_zone_73 : decode cX12_zone 73 = .ok (.getfield 48, 3) := by decide +kernel
theorem dX12_zone_76 : decode cX12_zone 76 = .ok (.iload_n 1, 1) := by decide +kernel
theorem dX12_zone_77 : decode cX12_zone 77 = .ok (.iconst 1, 1) := by decide +kernel
theorem dX12_zone_78 : decode cX12_zone 78 = .ok (.bastore, 1) := by decide +kernel
theorem dX12_zone_79 : decode cX12_zone 79 = .ok (.aload_n 0, 1) := by decide +kernel
theorem dX12_zone_80 : decode cX12_zone 80 = .ok (.getfield 52, 3) := by decide +kernel
theorem dX12_zone_83 : decode cX12_zone 83 = .ok (.iconst 4, 1) := by decide +kernel
theorem dX12_zone_84 : decode cX12_zone 84 = .ok (.iload_n 1, 1) := by decide +kernel
theorem dX12_zone_85 : decode cX12_zone 85 = .ok (.imul, 1) := by decide +kernel
theorem dX12_zone_86 : decode cX12_zone 86 = .ok (.iload_n 2, 1) := by decide +kernel
theorem dX12_zone_87 : decode cX12_zone 87 = .ok (.iastore, 1) := by decide +kernel
theorem dX12_zone_88 : decode cX12_zone 88 = .ok (.aload_n 0, 1) := by decide +kernel
theorem dX12_zone_89 : decode cX12_zone 89 = .ok (.getfield 52, 3) := by decide +kernel
theorem dX12_zone_92 : decode cX12_zone 92 = .ok (.iconst 4, 1) := by decide +kernel
theorem dX12_zone_93 : decode cX12_zone 93 = .ok (.iload_n 1, 1) := by decide +kernel
theorem dX12_zone_94 : decode cX12_zone 94 = .ok (.imul, 1) := by decide +kernel
theorem dX12_zone_95 : decode cX12_zone 95 = .ok (.iconst 1, 1) := by decide +kernel
theorem dX12_zone_96 : decode cX12_zone 96 = .ok (.iadd, 1) := by decide +kernel
theorem dX12_zone_97 : decode cX12_zone 97 = .ok (.iload_n 3, 1) := by decide +kernel
theorem dX12_zone_98 : decode cX12_zone 98 = .ok (.iastore, 1) := by decide +kernel
theorem dX12_zone_99 : decode cX12_zone 99 = .ok (.aload_n 0, 1) := by decide +kernel
theorem dX12_zone_100 : decode cX12_zone 100 = .ok (.getfield 52, 3) := by decide +kernel
theorem dX12_zone_103 : decode cX12_zone 103 = .ok (.iconst 4, 1) := by decide +kernel
theorem dX12_zone_104 : decode cX12_zone 104 = .ok (.iload_n 1, 1) := by decide +kernel
theorem dX12_zone_105 : decode cX12_zone 105 = .ok (.imul, 1) := by decide +kernel
theorem dX12_zone_106 : decode cX12_zone 106 = .ok (.iconst 2, 1) := by decide +kernel
theorem dX12_zone_107 : decode cX12_zone 107 = .ok (.iadd, 1) := by decide +kernel
theorem dX12_zone_108 : decode cX12_zone 108 = .ok (.iload 4, 2) := by decide +kernel
theorem dX12_zone_110 : decode cX12_zone 110 = .ok (.iastore, 1) := by decide +kernel
theorem dX12_zone_111 : decode cX12_zone 111 = .ok (.aload_n 0, 1) := by decide +kernel
theorem dX12_zone_112 : decode cX12_zone 112 = .ok (.getfield 52, 3) := by decide +kernel
theorem dX12_zone_115 : decode cX12_zone 115 = .ok (.iconst 4, 1) := by decide +kernel
theorem dX12_zone_116 : decode cX12_zone 116 = .ok (.iload_n 1, 1) := by decide +kernel
theorem dX12_zone_117 : decode cX12_zone 117 = .ok (.imul, 1) := by decide +kernel
theorem dX12_zone_118 : decode cX12_zone 118 = .ok (.iconst 3, 1) := by decide +kernel
theorem dX12_zone_119 : decode cX12_zone 119 = .ok (.iadd, 1) := by decide +kernel
theorem dX12_zone_120 : decode cX12_zone 120 = .ok (.iload 5, 2) := by decide +kernel
theorem dX12_zone_122 : decode cX12_zone 122 = .ok (.iastore, 1) := by decide +kernel
theorem dX12_zone_123 : decode cX12_zone 123 = .ok (.iconst 1, 1) := by decide +kernel
theorem dX12_zone_124 : decode cX12_zone 124 = .ok (.ireturn, 1) := by decide +kernel
set_option maxRecDepth 20000 in
theorem ggX12_open_X12_in : GoodIn wsX12_open wsX12_in := goodIn_r _ [8] (by decide +kernel) (by decide +kernel)
set_option maxRecDepth 20000 in
theorem gX12_open_X12_in : GoodIn wsX12_open (va_wsS RX12 90 yX12_in wsX12_in) := goodIn_app (goodIn_of _ (by decide +kernel)) ggX12_open_X12_in
theorem dX12_open_0 : decode cX12_open 0 = .ok (.aload_n 0, 1) := by decide +kernel
theorem dX12_open_1 : decode cX12_open 1 = .ok (.iconst 0, 1) := by decide +kernel
theorem dX12_open_2 : decode cX12_open 2 = .ok (.putfield 1, 3) := by decide +kernel
theorem dX12_open_5 : decode cX12_open 5 = .ok (.iload_n 1, 1) := by decide +kernel
theorem dX12_open_6 : decode cX12_open 6 = .ok (.i2l, 1) := by decide +kernel
theorem dX12_open_7 : decode cX12_open 7 = .ok (.lconst 0, 1) := by decide +kernel
theorem dX12_open_8 : decode cX12_open 8 = .ok (.ldc2_w 147, 3) := by decide +kernel
theorem dX12_open_11 : decode cX12_open 11 = .ok (.invokestatic 90, 3) := by decide +kernel
theorem dX12_open_14 : decode cX12_open 14 = .ok (.ifCond .ne 6, 3) := by decide +kernel
theorem dX12_open_17 : decode cX12_open 17 = .ok (.ldc 100, 2) := by decide +kernel
theorem dX12_open_19 : decode cX12_open 19 = .ok (.ireturn, 1) := by decide +kernel
theorem dX12_open_20 : decode cX12_open 20 = .ok (.aload_n 0, 1) := by decide +kernel
theorem dX12_open_21 : decode cX12_open 21 = .ok (.getfield 48, 3) := by decide +kernel
theorem dX12_open_24 : decode cX12_open 24 = .ok (.iload_n 1, 1) := by decide +kernel
theorem dX12_open_25 : decode cX12_open 25 = .ok (.baload, 1) := by decide +kernel
theorem dX12_open_26 : decode cX12_open 26 = .ok (.istore_n 2, 1) := by decide +kernel
theorem dX12_open_27 : decode cX12_open 27 = .ok (.aload_n 0, 1) := by decide +kernel
theorem dX12_open_28 : decode cX12_open 28 = .ok (.getfield 48, 3) := by decide +kernel
theorem dX12_open_31 : decode cX12_open 31 = .ok (.iload_n 1, 1) := by decide +kernel
theorem dX12_open_32 : decode cX12_open 32 = .ok (.iconst 0, 1) := by decide +kernel
theorem dX12_open_33 : decode cX12_open 33 = .ok (.bastore, 1) := by decide +kernel
theorem dX12_open_34 : decode cX12_open 34 = .ok (.iload_n 2, 1) := by decide +kernel
theorem dX12_open_35 : decode cX12_open 35 = .ok (.ifCond .eq 7, 3) := by decide +kernel
theorem dX12_open_38 : decode cX12_open 38 = .ok (.iconst 1, 1) := by decide +kernel
theorem dX12_open_39 : decode cX12_open 39 = .ok (.goto 4, 3) := by decide +kernel
theorem dX12_open_42 : decode cX12_open 42 = .ok (.iconst 0, 1) := by decide +kernel
theorem dX12_open_43 : decode cX12_open 43 = .ok (.ireturn, 1) := by decide +kernel
theorem dX12_tell_0 : decode cX12_tell 0 = .ok (.aload_n 0, 1) := by decide +kernel
theorem dX12_tell_1 : decode cX12_tell 1 = .ok (.getfield 149, 3) := by decide +kernel
theorem dX12_tell_4 : decode cX12_tell 4 = .ok (.sipush 2000, 3) := by decide +kernel
theorem dX12_tell_7 : decode cX12_tell 7 = .ok (.if_icmp .ne 9, 3) := by decide +kernel
theorem dX12_tell_10 : decode cX12_tell 10 = .ok (.aload_n 0, 1) := by decide +kernel
theorem dX12_tell_11 : decode cX12_tell 11 = .ok (.iconst 1, 1) := by decide +kernel
theorem dX12_tell_12 : decode cX12_tell 12 = .ok (.putfield 152, 3) := by decide +kernel
theorem dX12_tell_15 : decode cX12_tell 15 = .ok (.return_, 1) := by decide +kernel
theorem dX12_tell_16 : decode cX12_tell 16 = .ok (.aload_n 0, 1) := by decide +kernel
theorem dX12_tell_17 : decode cX12_tell 17 = .ok (.getfield 55, 3) := by decide +kernel
theorem dX12_tell_20 : decode cX12_tell 20 = .ok (.aload_n 0, 1) := by decide +kernel
theorem dX12_tell_21 : decode cX12_tell 21 = .ok (.getfield 149, 3) := by decide +kernel
theorem dX12_tell_24 : decode cX12_tell 24 = .ok (.iload_n 1, 1) := by decide +kernel
theorem dX12_tell_25 : decode cX12_tell 25 = .ok (.iastore, 1) := by decide +kernel
theorem dX12_tell_26 : decode cX12_tell 26 = .ok (.aload_n 0, 1) := by decide +kernel
theorem dX12_tell_27 : decode cX12_tell 27 = .ok (.getfield 58, 3) := by decide +kernel
theorem dX12_tell_30 : decode cX12_tell 30 = .ok (.aload_n 0, 1) := by decide +kernel
theorem dX12_tell_31 : decode cX12_tell 31 = .ok (.getfield 149, 3) := by decide +kernel
theorem dX12_tell_34 : decode cX12_tell 34 = .ok (.iload_n 2, 1) := by decide +kernel
theorem dX12_tell_35 : decode cX12_tell 35 = .ok (.iastore, 1) := by decide +kernel
theorem dX12_tell_36 : decode cX12_tell 36 = .ok (.aload_n 0, 1) := by decide +kernel
theorem dX12_tell_37 : decode cX12_tell 37 = .ok (.getfield 61, 3) := by decide +kernel
theorem dX12_tell_40 : decode cX12_tell 40 = .ok (.aload_n 0, 1) := by decide +kernel
theorem dX12_tell_41 : decode cX12_tell 41 = .ok (.getfield 149, 3) := by decide +kernel
theorem dX12_tell_44 : decode cX12_tell 44 = .ok (.iload_n 3, 1) := by decide +kernel
theorem dX12_tell_45 : decode cX12_tell 45 = .ok (.bastore, 1) := by decide +kernel
theorem dX12_tell_46 : decode cX12_tell 46 = .ok (.aload_n 0, 1) := by decide +kernel
theorem dX12_tell_47 : decode cX12_tell 47 = .ok (.dup, 1) := by decide +kernel
theorem dX12_tell_48 : decode cX12_tell 48 = .ok (.getfield 149, 3) := by decide +kernel
theorem dX12_tell_51 : decode cX12_tell 51 = .ok (.iconst 1, 1) := by decide +kernel
theorem dX12_tell_52 : decode cX12_tell 52 = .ok (.iadd, 1) := by decide +kernel
theorem dX12_tell_53 : decode cX12_tell 53 = .ok (.putfield 149, 3) := by decide +kernel
theorem dX12_tell_56 : decode cX12_tell 56 = .ok (.return_, 1) := by decide +kernel
set_option maxRecDepth 20000 in
theorem ggX12_stay_X12_tell : GoodIn wsX12_stay wsX12_tell := goodIn_r _ [7, 8, 9, 10, 11, 12, 13, 14, 15, 16, 17, 18, 19, 20, 21, 22, 23, 24, 25, 26, 27, 28, 29, 30, 31, 32, 33, 34, 35, 36, 37, 38, 39, 40, 41, 42, 43, 44, 45, 46, 47, 48, 49, 50, 51, 52, 53, 54] (by decide +kernel) (by decide +kernel)
set_option maxRecDepth 20000 in
theorem gX12_stay_X12_tell : GoodIn wsX12_stay (wsV RX12 162 RX12 yX12_tell wsX12_tell) := goodIn_app (goodIn_of _ (by decide +kernel)) ggX12_stay_X12_tell
theorem dX12_stay_0 : decode cX12_stay 0 = .ok (.iconst 0, 1) := by decide +kernel
theorem dX12_stay_1 : decode cX12_stay 1 = .ok (.istore_n 3, 1) := by decide +kernel
theorem dX12_stay_2 : decode cX12_stay 2 = .ok (.iload_n 3, 1) := by decide +kernel
theorem dX12_stay_3 : decode cX12_stay 3 = .ok (.iload_n 1, 1) := by decide +kernel
theorem dX12_stay_4 : decode cX12_stay 4 = .ok (.if_icmp .ge 22, 3) := by decide +kernel
theorem dX12_stay_7 : decode cX12_stay 7 = .ok (.aload_n 0, 1) := by decide +kernel
theorem dX12_stay_8 : decode cX12_stay 8 = .ok (.aload_n 0, 1) := by decide +kernel
theorem dX12_stay_9 : decode cX12_stay 9 = .ok (.getfield 156, 3) := by decide +kernel
theorem dX12_stay_12 : decode cX12_stay 12 = .ok (.aload_n 0, 1) := by decide +kernel
theorem dX12_stay_13 : decode cX12_stay 13 = .ok (.getfield 159, 3) := by decide +kernel
theorem dX12_stay_16 : decode cX12_stay 16 = .ok (.iload_n 2, 1) := by decide +kernel
theorem dX12_stay_17 : decode cX12_stay 17 = .ok (.invokevirtual 162, 3) := by decide +kernel
theorem dX12_stay_20 : decode cX12_stay 20 = .ok (.iinc 3 1, 3) := by decide +kernel
theorem dX12_stay_23 : decode cX12_stay 23 = .ok (.goto (-21), 3) := by decide +kernel
theorem dX12_stay_26 : decode cX12_stay 26 = .ok (.return_, 1) := by decide +kernel
set_option maxRecDepth 20000 in
theorem ggX12_move_X12_way : GoodIn wsX12_move wsX12_way := goodIn_r _ [7, 8, 9, 6, 10] (by decide +kernel) (by decide +kernel)
set_option maxRecDepth 20000 in
theorem gX12_move_X12_way : GoodIn wsX12_move (va_wsS RX12 123 yX12_way wsX12_way) := goodIn_app (goodIn_of _ (by decide +kernel)) ggX12_move_X12_way
set_option maxRecDepth 20000 in
theorem ggX12_move_X12_tell : GoodIn wsX12_move wsX12_tell := goodIn_r _ [14, 15, 16, 17, 18, 19, 20, 21, 22, 23, 24, 25, 26, 27, 28, 29, 30, 31, 32, 33, 34, 35, 36, 37, 38, 39, 40, 41, 42, 43, 44, 45, 46, 47, 48, 49, 50, 51, 52, 53, 54, 55, 56, 57, 58, 59, 60, 61] (by decide +kernel) (by decide +kernel)
set_option maxRecDepth 20000 in
theorem gX12_move_X12_tell : GoodIn wsX12_move (wsV RX12 162 RX12 yX12_tell wsX12_tell) := goodIn_app (goodIn_of _ (by decide +kernel)) ggX12_move_X12_tell
theorem dX12_move_0 : decode cX12_move 0 = .ok (.aload_n 0, 1) := by decide +kernel
theorem dX12_move_1 : decode cX12_move 1 = .ok (.getfield 156, 3) := by decide +kernel
theorem dX12_move_4 : decode cX12_move 4 = .ok (.aload_n 0, 1) := by decide +kernel
theorem dX12_move_5 : decode cX12_move 5 = .ok (.getfield 159, 3) := by decide +kernel
theorem dX12_move_8 : decode cX12_move 8 = .ok (.iload_n 1, 1) := by decide +kernel
theorem dX12_move_9 : decode cX12_move 9 = .ok (.iload_n 2, 1) := by decide +kernel
theorem dX12_move_10 : decode cX12_move 10 = .ok (.invokestatic 123, 3) := by decide +kernel
theorem dX12_move_13 : decode cX12_move 13 = .ok (.istore 4, 2) := by decide +kernel
theorem dX12_move_15 : decode cX12_move 15 = .ok (.iload 4, 2) := by decide +kernel
theorem dX12_move_17 : decode cX12_move 17 = .ok (.aload_n 0, 1) := by decide +kernel
theorem dX12_move_18 : decode cX12_move 18 = .ok (.getfield 45, 3) := by decide +kernel
theorem dX12_move_21 : decode cX12_move 21 = .ok (.iconst 0, 1) := by decide +kernel
theorem dX12_move_22 : decode cX12_move 22 = .ok (.iaload, 1) := by decide +kernel
theorem dX12_move_23 : decode cX12_move 23 = .ok (.iadd, 1) := by decide +kernel
theorem dX12_move_24 : decode cX12_move 24 = .ok (.iconst 1, 1) := by decide +kernel
theorem dX12_move_25 : decode cX12_move 25 = .ok (.isub, 1) := by decide +kernel
theorem dX12_move_26 : decode cX12_move 26 = .ok (.aload_n 0, 1) := by decide +kernel
theorem dX12_move_27 : decode cX12_move 27 = .ok (.getfield 45, 3) := by decide +kernel
theorem dX12_move_30 : decode cX12_move 30 = .ok (.iconst 0, 1) := by decide +kernel
theorem dX12_move_31 : decode cX12_move 31 = .ok (.iaload, 1) := by decide +kernel
theorem dX12_move_32 : decode cX12_move 32 = .ok (.idiv, 1) := by decide +kernel
theorem dX12_move_33 : decode cX12_move 33 = .ok (.istore 5, 2) := by decide +kernel
theorem dX12_move_35 : decode cX12_move 35 = .ok (.iconst 1, 1) := by decide +kernel
theorem dX12_move_36 : decode cX12_move 36 = .ok (.istore 6, 2) := by decide +kernel
theorem dX12_move_38 : decode cX12_move 38 = .ok (.iload 6, 2) := by decide +kernel
theorem dX12_move_40 : decode cX12_move 40 = .ok (.iload 5, 2) := by decide +kernel
theorem dX12_move_42 : decode cX12_move 42 = .ok (.if_icmp .gt 48, 3) := by decide +kernel
theorem dX12_move_45 : decode cX12_move 45 = .ok (.aload_n 0, 1) := by decide +kernel
theorem dX12_move_46 : decode cX12_move 46 = .ok (.aload_n 0, 1) := by decide +kernel
theorem dX12_move_47 : decode cX12_move 47 = .ok (.getfield 156, 3) := by decide +kernel
theorem dX12_move_50 : decode cX12_move 50 = .ok (.iload_n 1, 1) := by decide +kernel
theorem dX12_move_51 : decode cX12_move 51 = .ok (.aload_n 0, 1) := by decide +kernel
theorem dX12_move_52 : decode cX12_move 52 = .ok (.getfield 156, 3) := by decide +kernel
theorem dX12_move_55 : decode cX12_move 55 = .ok (.isub, 1) := by decide +kernel
theorem dX12_move_56 : decode cX12_move 56 = .ok (.iload 6, 2) := by decide +kernel
theorem dX12_move_58 : decode cX12_move 58 = .ok (.imul, 1) := by decide +kernel
theorem dX12_move_59 : decode cX12_move 59 = .ok (.iload 5, 2) := by decide +kernel
theorem dX12_move_61 : decode cX12_move 61 = .ok (.idiv, 1) := by decide +kernel
theorem dX12_move_62 : decode cX12_move 62 = .ok (.iadd, 1) := by decide +kernel
theorem dX12_move_63 : decode cX12_move 63 = .ok (.aload_n 0, 1) := by decide +kernel
theorem dX12_move_64 : decode cX12_move 64 = .ok (.getfield 159, 3) := by decide +kernel
theorem dX12_move_67 : decode cX12_move 67 = .ok (.iload_n 2, 1) := by decide +kernel
theorem dX12_move_68 : decode cX12_move 68 = .ok (.aload_n 0, 1) := by decide +kernel
theorem dX12_move_69 : decode cX12_move 69 = .ok (.getfield 159, 3) := by decide +kernel
theorem dX12_move_72 : decode cX12_move 72 = .ok (.isub, 1) := by decide +kernel
theorem dX12_move_73 : decode cX12_move 73 = .ok (.iload 6, 2) := by decide +kernel
theorem dX12_move_75 : decode cX12_move 75 = .ok (.imul, 1) := by decide +kernel
theorem dX12_move_76 : decode cX12_move 76 = .ok (.iload 5, 2) := by decide +kernel
theorem dX12_move_78 : decode cX12_move 78 = .ok (.idiv, 1) := by decide +kernel
theorem dX12_move_79 : decode cX12_move 79 = .ok (.iadd, 1) := by decide +kernel
theorem dX12_move_80 : decode cX12_move 80 = .ok (.iload_n 3, 1) := by decide +kernel
theorem dX12_move_81 : decode cX12_move 81 = .ok (.invokevirtual 162, 3) := by decide +kernel
theorem dX12_move_84 : decode cX12_move 84 = .ok (.iinc 6 1, 3) := by decide +kernel
theorem dX12_move_87 : decode cX12_move 87 = .ok (.goto (-49), 3) := by decide +kernel
theorem dX12_move_90 : decode cX12_move 90 = .ok (.aload_n 0, 1) := by decide +kernel
theorem dX12_move_91 : decode cX12_move 91 = .ok (.iload_n 1, 1) := by decide +kernel
theorem dX12_move_92 : decode cX12_move 92 = .ok (.putfield 156, 3) := by decide +kernel
theorem dX12_move_95 : decode cX12_move 95 = .ok (.aload_n 0, 1) := by decide +kernel
theorem dX12_move_96 : decode cX12_move 96 = .ok (.iload_n 2, 1) := by decide +kernel
theorem dX12_move_97 : decode cX12_move 97 = .ok (.putfield 159, 3) := by decide +kernel
theorem dX12_move_100 : decode cX12_move 100 = .ok (.return_, 1) := by decide +kernel
theorem dX12_holds_0 : decode cX12_holds 0 = .ok (.aload_n 0, 1) := by decide +kernel
theorem dX12_holds_1 : decode cX12_holds 1 = .ok (.getfield 30, 3) := by decide +kernel
theorem dX12_holds_4 : decode cX12_holds 4 = .ok (.iload_n 2, 1) := by decide +kernel
theorem dX12_holds_5 : decode cX12_holds 5 = .ok (.iaload, 1) := by decide +kernel
theorem dX12_holds_6 : decode cX12_holds 6 = .ok (.aload_n 0, 1) := by decide +kernel
theorem dX12_holds_7 : decode cX12_holds 7 = .ok (.getfield 30, 3) := by decide +kernel
theorem dX12_holds_10 : decode cX12_holds 10 = .ok (.iload_n 1, 1) := by decide +kernel
theorem dX12_holds_11 : decode cX12_holds 11 = .ok (.iaload, 1) := by decide +kernel
theorem dX12_holds_12 : decode cX12_holds 12 = .ok (.isub, 1) := by decide +kernel
theorem dX12_holds_13 : decode cX12_holds 13 = .ok (.istore 4, 2) := by decide +kernel
theorem dX12_holds_15 : decode cX12_holds 15 = .ok (.aload_n 0, 1) := by decide +kernel
theorem dX12_holds_16 : decode cX12_holds 16 = .ok (.getfield 33, 3) := by decide +kernel
theorem dX12_holds_19 : decode cX12_holds 19 = .ok (.iload_n 2, 1) := by decide +kernel
theorem dX12_holds_20 : decode cX12_holds 20 = .ok (.iaload, 1) := by decide +kernel
theorem dX12_holds_21 : decode cX12_holds 21 = .ok (.aload_n 0, 1) := by decide +kernel
theorem dX12_holds_22 : decode cX12_holds 22 = .ok (.getfield 33, 3) := by decide +kernel
theorem dX12_holds_25 : decode cX12_holds 25 = .ok (.iload_n 1, 1) := by decide +kernel
theorem dX12_holds_26 : decode cX12_holds 26 = .ok (.iaload, 1) := by decide +kernel
theorem dX12_holds_27 : decode cX12_holds 27 = .ok (.isub, 1) := by decide +kernel
theorem dX12_holds_28 : decode cX12_holds 28 = .ok (.istore 5, 2) := by decide +kernel
theorem dX12_holds_30 : decode cX12_holds 30 = .ok (.aload_n 0, 1) := by decide +kernel
theorem dX12_holds_31 : decode cX12_holds 31 = .ok (.getfield 30, 3) := by decide +kernel
theorem dX12_holds_34 : decode cX12_holds 34 = .ok (.iload_n 3, 1) := by decide +kernel
theorem dX12_holds_35 : decode cX12_holds 35 = .ok (.iaload, 1) := by decide +kernel
theorem dX12_holds_36 : decode cX12_holds 36 = .ok (.aload_n 0, 1) := by decide +kernel
theorem dX12_holds_37 : decode cX12_holds 37 = .ok (.getfield 30, 3) := by decide +kernel
theorem dX12_holds_40 : decode cX12_holds 40 = .ok (.iload_n 2, 1) := by decide +kernel
theorem dX12_holds_41 : decode cX12_holds 41 = .ok (.iaload, 1) := by decide +kernel
theorem dX12_holds_42 : decode cX12_holds 42 = .ok (.isub, 1) := by decide +kernel
theorem dX12_holds_43 : decode cX12_holds 43 = .ok (.istore 6, 2) := by decide +kernel
theorem dX12_holds_45 : decode cX12_holds 45 = .ok (.aload_n 0, 1) := by decide +kernel
theorem dX12_holds_46 : decode cX12_holds 46 = .ok (.getfield 33, 3) := by decide +kernel
theorem dX12_holds_49 : decode cX12_holds 49 = .ok (.iload_n 3, 1) := by decide +kernel
theorem dX12_holds_50 : decode cX12_holds 50 = .ok (.iaload, 1) := by decide +kernel
theorem dX12_holds_51 : decode cX12_holds 51 = .ok (.aload_n 0, 1) := by decide +kernel
theorem dX12_holds_52 : decode cX12_holds 52 = .ok (.getfield 33, 3) := by decide +kernel
theorem dX12_holds_55 : decode cX12_holds 55 = .ok (.iload_n 2, 1) := by decide +kernel
theorem dX12_holds_56 : decode cX12_holds 56 = .ok (.iaload, 1) := by decide +kernel
theorem dX12_holds_57 : decode cX12_holds 57 = .ok (.isub, 1) := by decide +kernel
theorem dX12_holds_58 : decode cX12_holds 58 = .ok (.istore 7, 2) := by decide +kernel
theorem dX12_holds_60 : decode cX12_holds 60 = .ok (.iload 4, 2) := by decide +kernel
theorem dX12_holds_62 : decode cX12_holds 62 = .ok (.iload 6, 2) := by decide +kernel
theorem dX12_holds_64 : decode cX12_holds 64 = .ok (.imul, 1) := by decide +kernel
theorem dX12_holds_65 : decode cX12_holds 65 = .ok (.iload 5, 2) := by decide +kernel
theorem dX12_holds_67 : decode cX12_holds 67 = .ok (.iload 7, 2) := by decide +kernel
theorem dX12_holds_69 : decode cX12_holds 69 = .ok (.imul, 1) := by decide +kernel
theorem dX12_holds_70 : decode cX12_holds 70 = .ok (.iadd, 1) := by decide +kernel
theorem dX12_holds_71 : decode cX12_holds 71 = .ok (.ifCond .ge 7, 3) := by decide +kernel
theorem dX12_holds_74 : decode cX12_holds 74 = .ok (.iconst 2, 1) := by decide +kernel
theorem dX12_holds_75 : decode cX12_holds 75 = .ok (.goto 22, 3) := by decide +kernel
theorem dX12_holds_78 : decode cX12_holds 78 = .ok (.iload 4, 2) := by decide +kernel
theorem dX12_holds_80 : decode cX12_holds 80 = .ok (.iload 7, 2) := by decide +kernel
theorem dX12_holds_82 : decode cX12_holds 82 = .ok (.imul, 1) := by decide +kernel
theorem dX12_holds_83 : decode cX12_holds 83 = .ok (.iload 5, 2) := by decide +kernel
theorem dX12_holds_85 : decode cX12_holds 85 = .ok (.iload 6, 2) := by decide +kernel
theorem dX12_holds_87 : decode cX12_holds 87 = .ok (.imul, 1) := by decide +kernel
theorem dX12_holds_88 : decode cX12_holds 88 = .ok (.isub, 1) := by decide +kernel
theorem dX12_holds_89 : decode cX12_holds 89 = .ok (.ifCond .eq 7, 3) := by decide +kernel
theorem dX12_holds_92 : decode cX12_holds 92 = .ok (.iconst 1, 1) := by decide +kernel
theorem dX12_holds_93 : decode cX12_holds 93 = .ok (.goto 4, 3) := by decide +kernel
theorem dX12_holds_96 : decode cX12_holds 96 = .ok (.iconst 0, 1) := by decide +kernel
theorem dX12_holds_97 : decode cX12_holds 97 = .ok (.ireturn, 1) := by decide +kernel
set_option maxRecDepth 20000 in
theorem ggX12_make_X12_at : GoodIn wsX12_make wsX12_at := goodIn_r _ [16, 8, 60, 61, 62, 63, 64, 65, 66, 67, 68, 69, 70, 71, 72, 73, 74, 75, 76, 77, 78, 79, 80, 81, 82, 83, 84, 85, 86, 87, 88, 89, 90, 91, 92, 93, 94, 95, 96, 97, 98, 99, 100, 101] (by decide +kernel) (by decide +kernel)
set_option maxRecDepth 20000 in
theorem gX12_make_X12_at : GoodIn wsX12_make (wsV RX12 119 RX12 yX12_at wsX12_at) := goodIn_app (goodIn_of _ (by decide +kernel)) ggX12_make_X12_at
set_option maxRecDepth 20000 in
theorem ggX12_make_X12_move : GoodIn wsX12_make wsX12_move := goodIn_r _ [20, 3, 4, 11, 21, 22, 15, 23, 24, 25, 26, 27, 28, 29, 30, 1, 2, 31, 32, 33, 60, 61, 62, 63, 64, 65, 66, 67, 68, 69, 70, 71, 72, 73, 74, 75, 76, 77, 78, 79, 80, 81, 82, 83, 84, 85, 86, 87, 88, 89, 90, 91, 92, 93, 94, 95, 96, 97, 98, 99, 100, 101] (by decide +kernel) (by decide +kernel)
set_option maxRecDepth 20000 in
theorem gX12_make_X12_move : GoodIn wsX12_make (wsV RX12 166 RX12 yX12_move wsX12_move) := goodIn_app (goodIn_of _ (by decide +kernel)) ggX12_make_X12_move
set_option maxRecDepth 20000 in
theorem ggX12_make_X12_stay : GoodIn wsX12_make wsX12_stay := goodIn_r _ [37, 3, 4, 27, 28, 29, 15, 30, 1, 2, 31, 32, 33, 60, 61, 62, 63, 64, 65, 66, 67, 68, 69, 70, 71, 72, 73, 74, 75, 76, 77, 78, 79, 80, 81, 82, 83, 84, 85, 86, 87, 88, 89, 90, 91, 92, 93, 94, 95, 96, 97, 98, 99, 100, 101] (by decide +kernel) (by decide +kernel)
set_option maxRecDepth 20000 in
theorem gX12_make_X12_stay : GoodIn wsX12_make (wsV RX12 169 RX12 yX12_stay wsX12_stay) := goodIn_app (goodIn_of _ (by decide +kernel)) ggX12_make_X12_stay
set_option maxRecDepth 20000 in
theorem ggX12_make_X12_holds : GoodIn wsX12_make wsX12_holds := goodIn_r _ [41, 9, 10, 60, 61, 62, 63, 64, 65, 66, 67, 68, 69, 70, 71, 72, 73, 74, 75, 76, 77, 78, 79, 80, 81, 82, 83, 84, 85, 86, 87, 88, 89, 90, 91, 92, 93, 94, 95, 96, 97, 98, 99, 100, 101] (by decide +kernel) (by decide +kernel)
set_option maxRecDepth 20000 in
theorem gX12_make_X12_holds : GoodIn wsX12_make (wsV RX12 173 RX12 yX12_holds wsX12_holds) := goodIn_app (goodIn_of _ (by decide +kernel)) ggX12_make_X12_holds
set_option maxRecDepth 20000 in
theorem ggX12_make_X12_throwMirrors : GoodIn wsX12_make wsX12_throwMirrors := goodIn_r _ [45, 46, 1, 31, 11, 32, 47, 48, 49, 50, 51, 52, 53, 54, 15, 55, 56, 57, 58, 59, 33, 60, 61, 62, 63, 64, 65, 66, 67, 68, 69, 70, 71, 72, 73, 74, 75, 76, 77, 78, 79, 80, 81, 82, 83, 84, 85, 86, 87, 88, 89, 90, 91, 92, 93, 94, 95, 96, 97, 98, 99, 100, 101] (by decide +kernel) (by decide +kernel)
set_option maxRecDepth 20000 in
theorem gX12_make_X12_throwMirrors : GoodIn wsX12_make (wsV RX12 176 RX12 yX12_throwMirrors wsX12_throwMirrors) := goodIn_app (goodIn_of _ (by decide +kernel)) ggX12_make_X12_throwMirrors
theorem dX12_make_0 : decode cX12_make 0 = .ok (.aload_n 0, 1) := by decide +kernel
theorem dX12_make_1 : decode cX12_make 1 = .ok (.iconst 0, 1) := by decide +kernel
theorem dX12_make_2 : decode cX12_make 2 = .ok (.putfield 149, 3) := by decide +kernel
theorem dX12_make_5 : decode cX12_make 5 = .ok (.aload_n 0, 1) := by decide +kernel
theorem dX12_make_6 : decode cX12_make 6 = .ok (.iconst 0, 1) := by decide +kernel
theorem dX12_make_7 : decode cX12_make 7 = .ok (.putfield 152, 3) := by decide +kernel
theorem dX12_make_10 : decode cX12_make 10 = .ok (.aload_n 0, 1) := by decide +kernel
theorem dX12_make_11 : decode cX12_make 11 = .ok (.iconst 0, 1) := by decide +kernel
theorem dX12_make_12 : decode cX12_make 12 = .ok (.putfield 156, 3) := by decide +kernel
theorem dX12_make_15 : decode cX12_make 15 = .ok (.aload_n 0, 1) := by decide +kernel
theorem dX12_make_16 : decode cX12_make 16 = .ok (.iconst 0, 1) := by decide +kernel
theorem dX12_make_17 : decode cX12_make 17 = .ok (.putfield 159, 3) := by decide +kernel
theorem dX12_make_20 : decode cX12_make 20 = .ok (.iconst 0, 1) := by decide +kernel
theorem dX12_make_21 : decode cX12_make 21 = .ok (.istore_n 1, 1) := by decide +kernel
theorem dX12_make_22 : decode cX12_make 22 = .ok (.iload_n 1, 1) := by decide +kernel
theorem dX12_make_23 : decode cX12_make 23 = .ok (.aload_n 0, 1) := by decide +kernel
theorem dX12_make_24 : decode cX12_make 24 = .ok (.getfield 105, 3) := by decide +kernel
theorem dX12_make_27 : decode cX12_make 27 = .ok (.if_icmp .ge 181, 3) := by decide +kernel
theorem dX12_make_30 : decode cX12_make 30 = .ok (.aload_n 0, 1) := by decide +kernel
theorem dX12_make_31 : decode cX12_make 31 = .ok (.getfield 36, 3) := by decide +kernel
theorem dX12_make_34 : decode cX12_make 34 = .ok (.iload_n 1, 1) := by decide +kernel
theorem dX12_make_35 : decode cX12_make 35 = .ok (.iaload, 1) := by decide +kernel
theorem dX12_make_36 : decode cX12_make 36 = .ok (.istore_n 2, 1) := by decide +kernel
theorem dX12_make_37 : decode cX12_make 37 = .ok (.aload_n 0, 1) := by decide +kernel
theorem dX12_make_38 : decode cX12_make 38 = .ok (.getfield 39, 3) := by decide +kernel
theorem dX12_make_41 : decode cX12_make 41 = .ok (.iload_n 1, 1) := by decide +kernel
theorem dX12_make_42 : decode cX12_make 42 = .ok (.iaload, 1) := by decide +kernel
theorem dX12_make_43 : decode cX12_make 43 = .ok (.istore_n 3, 1) := by decide +kernel
theorem dX12_make_44 : decode cX12_make 44 = .ok (.aload_n 0, 1) := by decide +kernel
theorem dX12_make_45 : decode cX12_make 45 = .ok (.getfield 27, 3) := by decide +kernel
theorem dX12_make_48 : decode cX12_make 48 = .ok (.iload_n 2, 1) := by decide +kernel
theorem dX12_make_49 : decode cX12_make 49 = .ok (.iaload, 1) := by decide +kernel
theorem dX12_make_50 : decode cX12_make 50 = .ok (.istore 4, 2) := by decide +kernel
theorem dX12_make_52 : decode cX12_make 52 = .ok (.aload_n 0, 1) := by decide +kernel
theorem dX12_make_53 : decode cX12_make 53 = .ok (.aload_n 0, 1) := by decide +kernel
theorem dX12_make_54 : decode cX12_make 54 = .ok (.getfield 30, 3) := by decide +kernel
theorem dX12_make_57 : decode cX12_make 57 = .ok (.aload_n 0, 1) := by decide +kernel
theorem dX12_make_58 : decode cX12_make 58 = .ok (.iload_n 2, 1) := by decide +kernel
theorem dX12_make_59 : decode cX12_make 59 = .ok (.iload_n 3, 1) := by decide +kernel
theorem dX12_make_60 : decode cX12_make 60 = .ok (.iconst 0, 1) := by decide +kernel
theorem dX12_make_61 : decode cX12_make 61 = .ok (.invokevirtual 119, 3) := by decide +kernel
theorem dX12_make_64 : decode cX12_make 64 = .ok (.iaload, 1) := by decide +kernel
theorem dX12_make_65 : decode cX12_make 65 = .ok (.aload_n 0, 1) := by decide +kernel
theorem dX12_make_66 : decode cX12_make 66 = .ok (.getfield 33, 3) := by decide +kernel
theorem dX12_make_69 : decode cX12_make 69 = .ok (.aload_n 0, 1) := by decide +kernel
theorem dX12_make_70 : decode cX12_make 70 = .ok (.iload_n 2, 1) := by decide +kernel
theorem dX12_make_71 : decode cX12_make 71 = .ok (.iload_n 3, 1) := by decide +kernel
theorem dX12_make_72 : decode cX12_make 72 = .ok (.iconst 0, 1) := by decide +kernel
theorem dX12_make_73 : decode cX12_make 73 = .ok (.invokevirtual 119, 3) := by decide +kernel
theorem dX12_make_76 : decode cX12_make 76 = .ok (.iaload, 1) := by decide +kernel
theorem dX12_make_77 : decode cX12_make 77 = .ok (.iconst 0, 1) := by decide +kernel
theorem dX12_make_78 : decode cX12_make 78 = .ok (.invokevirtual 166, 3) := by decide +kernel
theorem dX12_make_81 : decode cX12_make 81 = .ok (.aload_n 0, 1) := by decide +kernel
theorem dX12_make_82 : decode cX12_make 82 = .ok (.aload_n 0, 1) := by decide +kernel
theorem dX12_make_83 : decode cX12_make 83 = .ok (.getfield 45, 3) := by decide +kernel
theorem dX12_make_86 : decode cX12_make 86 = .ok (.iconst 1, 1) := by decide +kernel
theorem dX12_make_87 : decode cX12_make 87 = .ok (.iaload, 1) := by decide +kernel
theorem dX12_make_88 : decode cX12_make 88 = .ok (.iconst 0, 1) := by decide +kernel
theorem dX12_make_89 : decode cX12_make 89 = .ok (.invokevirtual 169, 3) := by decide +kernel
theorem dX12_make_92 : decode cX12_make 92 = .ok (.aload_n 0, 1) := by decide +kernel
theorem dX12_make_93 : decode cX12_make 93 = .ok (.iconst 1, 1) := by decide +kernel
theorem dX12_make_94 : decode cX12_make 94 = .ok (.iconst 1, 1) := by decide +kernel
theorem dX12_make_95 : decode cX12_make 95 = .ok (.invokevirtual 169, 3) := by decide +kernel
theorem dX12_make_98 : decode cX12_make 98 = .ok (.iconst 1, 1) := by decide +kernel
theorem dX12_make_99 : decode cX12_make 99 = .ok (.istore 5, 2) := by decide +kernel
theorem dX12_make_101 : decode cX12_make 101 = .ok (.iload 5, 2) := by decide +kernel
theorem dX12_make_103 : decode cX12_make 103 = .ok (.iload 4, 2) := by decide +kernel
theorem dX12_make_105 : decode cX12_make 105 = .ok (.if_icmp .ge 86, 3) := by decide +kernel
theorem dX12_make_108 : decode cX12_make 108 = .ok (.aload_n 0, 1) := by decide +kernel
theorem dX12_make_109 : decode cX12_make 109 = .ok (.aload_n 0, 1) := by decide +kernel
theorem dX12_make_110 : decode cX12_make 110 = .ok (.getfield 30, 3) := by decide +kernel
theorem dX12_make_113 : decode cX12_make 113 = .ok (.aload_n 0, 1) := by decide +kernel
theorem dX12_make_114 : decode cX12_make 114 = .ok (.iload_n 2, 1) := by decide +kernel
theorem dX12_make_115 : decode cX12_make 115 = .ok (.iload_n 3, 1) := by decide +kernel
theorem dX12_make_116 : decode cX12_make 116 = .ok (.iload 5, 2) := by decide +kernel
theorem dX12_make_118 : decode cX12_make 118 = .ok (.invokevirtual 119, 3) := by decide +kernel
theorem dX12_make_121 : decode cX12_make 121 = .ok (.iaload, 1) := by decide +kernel
theorem dX12_make_122 : decode cX12_make 122 = .ok (.aload_n 0, 1) := by decide +kernel
theorem dX12_make_123 : decode cX12_make 123 = .ok (.getfield 33, 3) := by decide +kernel
theorem dX12_make_126 : decode cX12_make 126 = .ok (.aload_n 0, 1) := by decide +kernel
theorem dX12_make_127 : decode cX12_make 127 = .ok (.iload_n 2, 1) := by decide +kernel
theorem dX12_make_128 : decode cX12_make 128 = .ok (.iload_n 3, 1) := by decide +kernel
theorem dX12_make_129 : decode cX12_make 129 = .ok (.iload 5, 2) := by decide +kernel
theorem dX12_make_131 : decode cX12_make 131 = .ok (.invokevirtual 119, 3) := by decide +kernel
theorem dX12_make_134 : decode cX12_make 134 = .ok (.iaload, 1) := by decide +kernel
theorem dX12_make_135 : decode cX12_make 135 = .ok (.iconst 1, 1) := by decide +kernel
theorem dX12_make_136 : decode cX12_make 136 = .ok (.invokevirtual 166, 3) := by decide +kernel
theorem dX12_make_139 : decode cX12_make 139 = .ok (.iload 5, 2) := by decide +kernel
theorem dX12_make_141 : decode cX12_make 141 = .ok (.iconst 1, 1) := by decide +kernel
theorem dX12_make_142 : decode cX12_make 142 = .ok (.iadd, 1) := by decide +kernel
theorem dX12_make_143 : decode cX12_make 143 = .ok (.iload 4, 2) := by decide +kernel
theorem dX12_make_145 : decode cX12_make 145 = .ok (.if_icmp .ge 40, 3) := by decide +kernel
theorem dX12_make_148 : decode cX12_make 148 = .ok (.aload_n 0, 1) := by decide +kernel
theorem dX12_make_149 : decode cX12_make 149 = .ok (.aload_n 0, 1) := by decide +kernel
theorem dX12_make_150 : decode cX12_make 150 = .ok (.aload_n 0, 1) := by decide +kernel
theorem dX12_make_151 : decode cX12_make 151 = .ok (.iload_n 2, 1) := by decide +kernel
theorem dX12_make_152 : decode cX12_make 152 = .ok (.iload_n 3, 1) := by decide +kernel
theorem dX12_make_153 : decode cX12_make 153 = .ok (.iload 5, 2) := by decide +kernel
theorem dX12_make_155 : decode cX12_make 155 = .ok (.iconst 1, 1) := by decide +kernel
theorem dX12_make_156 : decode cX12_make 156 = .ok (.isub, 1) := by decide +kernel
theorem dX12_make_157 : decode cX12_make 157 = .ok (.invokevirtual 119, 3) := by decide +kernel
theorem dX12_make_160 : decode cX12_make 160 = .ok (.aload_n 0, 1) := by decide +kernel
theorem dX12_make_161 : decode cX12_make 161 = .ok (.iload_n 2, 1) := by decide +kernel
theorem dX12_make_162 : decode cX12_make 162 = .ok (.iload_n 3, 1) := by decide +kernel
theorem dX12_make_163 : decode cX12_make 163 = .ok (.iload 5, 2) := by decide +kernel
theorem dX12_make_165 : decode cX12_make 165 = .ok (.invokevirtual 119, 3) := by decide +kernel
theorem dX12_make_168 : decode cX12_make 168 = .ok (.aload_n 0, 1) := by decide +kernel
theorem dX12_make_169 : decode cX12_make 169 = .ok (.iload_n 2, 1) := by decide +kernel
theorem dX12_make_170 : decode cX12_make 170 = .ok (.iload_n 3, 1) := by decide +kernel
theorem dX12_make_171 : decode cX12_make 171 = .ok (.iload 5, 2) := by decide +kernel
theorem dX12_make_173 : decode cX12_make 173 = .ok (.iconst 1, 1) := by decide +kernel
theorem dX12_make_174 : decode cX12_make 174 = .ok (.iadd, 1) := by decide +kernel
theorem dX12_make_175 : decode cX12_make 175 = .ok (.invokevirtual 119, 3) := by decide +kernel
theorem dX12_make_178 : decode cX12_make 178 = .ok (.invokevirtual 173, 3) := by decide +kernel
theorem dX12_make_181 : decode cX12_make 181 = .ok (.iconst 1, 1) := by decide +kernel
theorem dX12_make_182 : decode cX12_make 182 = .ok (.invokevirtual 169, 3) := by decide +kernel
theorem dX12_make_185 : decode cX12_make 185 = .ok (.iinc 5 1, 3) := by decide +kernel
theorem dX12_make_188 : decode cX12_make 188 = .ok (.goto (-87), 3) := by decide +kernel
theorem dX12_make_191 : decode cX12_make 191 = .ok (.aload_n 0, 1) := by decide +kernel
theorem dX12_make_192 : decode cX12_make 192 = .ok (.aload_n 0, 1) := by decide +kernel
theorem dX12_make_193 : decode cX12_make 193 = .ok (.getfield 45, 3) := by decide +kernel
theorem dX12_make_196 : decode cX12_make 196 = .ok (.iconst 1, 1) := by decide +kernel
theorem dX12_make_197 : decode cX12_make 197 = .ok (.iaload, 1) := by decide +kernel
theorem dX12_make_198 : decode cX12_make 198 = .ok (.iconst 0, 1) := by decide +kernel
theorem dX12_make_199 : decode cX12_make 199 = .ok (.invokevirtual 169, 3) := by decide +kernel
theorem dX12_make_202 : decode cX12_make 202 = .ok (.iinc 1 1, 3) := by decide +kernel
theorem dX12_make_205 : decode cX12_make 205 = .ok (.goto (-183), 3) := by decide +kernel
theorem dX12_make_208 : decode cX12_make 208 = .ok (.aload_n 0, 1) := by decide +kernel
theorem dX12_make_209 : decode cX12_make 209 = .ok (.iconst 0, 1) := by decide +kernel
theorem dX12_make_210 : decode cX12_make 210 = .ok (.iconst 0, 1) := by decide +kernel
theorem dX12_make_211 : decode cX12_make 211 = .ok (.iconst 0, 1) := by decide +kernel
theorem dX12_make_212 : decode cX12_make 212 = .ok (.invokevirtual 166, 3) := by decide +kernel
theorem dX12_make_215 : decode cX12_make 215 = .ok (.aload_n 0, 1) := by decide +kernel
theorem dX12_make_216 : decode cX12_make 216 = .ok (.invokevirtual 176, 3) := by decide +kernel
theorem dX12_make_219 : decode cX12_make 219 = .ok (.return_, 1) := by decide +kernel
set_option maxRecDepth 20000 in
theorem ggX12_throwMirrors_X12_in : GoodIn wsX12_throwMirrors wsX12_in := goodIn_r _ [15] (by decide +kernel) (by decide +kernel)
set_option maxRecDepth 20000 in
theorem gX12_throwMirrors_X12_in : GoodIn wsX12_throwMirrors (va_wsS RX12 90 yX12_in wsX12_in) := goodIn_app (goodIn_of _ (by decide +kernel)) ggX12_throwMirrors_X12_in
set_option maxRecDepth 20000 in
theorem ggX12_throwMirrors_X12_isLit : GoodIn wsX12_throwMirrors wsX12_isLit := goodIn_r _ [19, 4, 20, 8, 21, 22, 23, 24, 25, 26, 27, 28, 29, 30, 31, 32, 33, 34, 35, 36, 37, 38, 39, 40, 41, 42, 43, 44, 45, 46, 47, 48, 49, 50, 51, 52, 53, 54, 55, 56, 57, 58, 59, 60, 61, 62] (by decide +kernel) (by decide +kernel)
set_option maxRecDepth 20000 in
theorem gX12_throwMirrors_X12_isLit : GoodIn wsX12_throwMirrors (wsV RX12 179 RX12 yX12_isLit wsX12_isLit) := goodIn_app (goodIn_of _ (by decide +kernel)) ggX12_throwMirrors_X12_isLit
theorem dX12_throwMirrors_0 : decode cX12_throwMirrors 0 = .ok (.iconst 0, 1) := by decide +kernel
theorem dX12_throwMirrors_1 : decode cX12_throwMirrors 1 = .ok (.istore_n 1, 1) := by decide +kernel
theorem dX12_throwMirrors_2 : decode cX12_throwMirrors 2 = .ok (.iload_n 1, 1) := by decide +kernel
theorem dX12_throwMirrors_3 : decode cX12_throwMirrors 3 = .ok (.bipush 121, 2) := by decide +kernel
theorem dX12_throwMirrors_5 : decode cX12_throwMirrors 5 = .ok (.if_icmp .ge 16, 3) := by decide +kernel
theorem dX12_throwMirrors_8 : decode cX12_throwMirrors 8 = .ok (.aload_n 0, 1) := by decide +kernel
theorem dX12_throwMirrors_9 : decode cX12_throwMirrors 9 = .ok (.getfield 73, 3) := by decide +kernel
theorem dX12_throwMirrors_12 : decode cX12_throwMirrors 12 = .ok (.iload_n 1, 1) := by decide +kernel
theorem dX12_throwMirrors_13 : decode cX12_throwMirrors 13 = .ok (.iconst 0, 1) := by decide +kernel
theorem dX12_throwMirrors_14 : decode cX12_throwMirrors 14 = .ok (.iastore, 1) := by decide +kernel
theorem dX12_throwMirrors_15 : decode cX12_throwMirrors 15 = .ok (.iinc 1 1, 3) := by decide +kernel
theorem dX12_throwMirrors_18 : decode cX12_throwMirrors 18 = .ok (.goto (-16), 3) := by decide +kernel
theorem dX12_throwMirrors_21 : decode cX12_throwMirrors 21 = .ok (.iconst 0, 1) := by decide +kernel
theorem dX12_throwMirrors_22 : decode cX12_throwMirrors 22 = .ok (.istore_n 1, 1) := by decide +kernel
theorem dX12_throwMirrors_23 : decode cX12_throwMirrors 23 = .ok (.iconst 0, 1) := by decide +kernel
theorem dX12_throwMirrors_24 : decode cX12_throwMirrors 24 = .ok (.istore_n 2, 1) := by decide +kernel
theorem dX12_throwMirrors_25 : decode cX12_throwMirrors 25 = .ok (.iconst 0, 1) := by decide +kernel
theorem dX12_throwMirrors_26 : decode cX12_throwMirrors 26 = .ok (.istore_n 3, 1) := by decide +kernel
theorem dX12_throwMirrors_27 : decode cX12_throwMirrors 27 = .ok (.iconst 0, 1) := by decide +kernel
theorem dX12_throwMirrors_28 : decode cX12_throwMirrors 28 = .ok (.istore 4, 2) := by decide +kernel
theorem dX12_throwMirrors_30 : decode cX12_throwMirrors 30 = .ok (.iconst 0, 1) := by decide +kernel
theorem dX12_throwMirrors_31 : decode cX12_throwMirrors 31 = .ok (.istore 5, 2) := by decide +kernel
theorem dX12_throwMirrors_33 : decode cX12_throwMirrors 33 = .ok (.iload 5, 2) := by decide +kernel
theorem dX12_throwMirrors_35 : decode cX12_throwMirrors 35 = .ok (.aload_n 0, 1) := by decide +kernel
theorem dX12_throwMirrors_36 : decode cX12_throwMirrors 36 = .ok (.getfield 149, 3) := by decide +kernel
theorem dX12_throwMirrors_39 : decode cX12_throwMirrors 39 = .ok (.if_icmp .ge 270, 3) := by decide +kernel
theorem dX12_throwMirrors_42 : decode cX12_throwMirrors 42 = .ok (.iload_n 3, 1) := by decide +kernel
theorem dX12_throwMirrors_43 : decode cX12_throwMirrors 43 = .ok (.aload_n 0, 1) := by decide +kernel
theorem dX12_throwMirrors_44 : decode cX12_throwMirrors 44 = .ok (.getfield 55, 3) := by decide +kernel
theorem dX12_throwMirrors_47 : decode cX12_throwMirrors 47 = .ok (.iload 5, 2) := by decide +kernel
theorem dX12_throwMirrors_49 : decode cX12_throwMirrors 49 = .ok (.iaload, 1) := by decide +kernel
theorem dX12_throwMirrors_50 : decode cX12_throwMirrors 50 = .ok (.iload_n 1, 1) := by decide +kernel
theorem dX12_throwMirrors_51 : decode cX12_throwMirrors 51 = .ok (.isub, 1) := by decide +kernel
theorem dX12_throwMirrors_52 : decode cX12_throwMirrors 52 = .ok (.aload_n 0, 1) := by decide +kernel
theorem dX12_throwMirrors_53 : decode cX12_throwMirrors 53 = .ok (.getfield 45, 3) := by decide +kernel
theorem dX12_throwMirrors_56 : decode cX12_throwMirrors 56 = .ok (.iconst 2, 1) := by decide +kernel
theorem dX12_throwMirrors_57 : decode cX12_throwMirrors 57 = .ok (.iaload, 1) := by decide +kernel
theorem dX12_throwMirrors_58 : decode cX12_throwMirrors 58 = .ok (.imul, 1) := by decide +kernel
theorem dX12_throwMirrors_59 : decode cX12_throwMirrors 59 = .ok (.iload_n 3, 1) := by decide +kernel
theorem dX12_throwMirrors_60 : decode cX12_throwMirrors 60 = .ok (.aload_n 0, 1) := by decide +kernel
theorem dX12_throwMirrors_61 : decode cX12_throwMirrors 61 = .ok (.getfield 45, 3) := by decide +kernel
theorem dX12_throwMirrors_64 : decode cX12_throwMirrors 64 = .ok (.iconst 3, 1) := by decide +kernel
theorem dX12_throwMirrors_65 : decode cX12_throwMirrors 65 = .ok (.iaload, 1) := by decide +kernel
theorem dX12_throwMirrors_66 : decode cX12_throwMirrors 66 = .ok (.imul, 1) := by decide +kernel
theorem dX12_throwMirrors_67 : decode cX12_throwMirrors 67 = .ok (.isub, 1) := by decide +kernel
theorem dX12_throwMirrors_68 : decode cX12_throwMirrors 68 = .ok (.bipush 16, 2) := by decide +kernel
theorem dX12_throwMirrors_70 : decode cX12_throwMirrors 70 = .ok (.idiv, 1) := by decide +kernel
theorem dX12_throwMirrors_71 : decode cX12_throwMirrors 71 = .ok (.iadd, 1) := by decide +kernel
theorem dX12_throwMirrors_72 : decode cX12_throwMirrors 72 = .ok (.istore_n 3, 1) := by decide +kernel
theorem dX12_throwMirrors_73 : decode cX12_throwMirrors 73 = .ok (.iload 4, 2) := by decide +kernel
theorem dX12_throwMirrors_75 : decode cX12_throwMirrors 75 = .ok (.aload_n 0, 1) := by decide +kernel
theorem dX12_throwMirrors_76 : decode cX12_throwMirrors 76 = .ok (.getfield 58, 3) := by decide +kernel
theorem dX12_throwMirrors_79 : decode cX12_throwMirrors 79 = .ok (.iload 5, 2) := by decide +kernel
theorem dX12_throwMirrors_81 : decode cX12_throwMirrors 81 = .ok (.iaload, 1) := by decide +kernel
theorem dX12_throwMirrors_82 : decode cX12_throwMirrors 82 = .ok (.iload_n 2, 1) := by decide +kernel
theorem dX12_throwMirrors_83 : decode cX12_throwMirrors 83 = .ok (.isub, 1) := by decide +kernel
theorem dX12_throwMirrors_84 : decode cX12_throwMirrors 84 = .ok (.aload_n 0, 1) := by decide +kernel
theorem dX12_throwMirrors_85 : decode cX12_throwMirrors 85 = .ok (.getfield 45, 3) := by decide +kernel
theorem dX12_throwMirrors_88 : decode cX12_throwMirrors 88 = .ok (.iconst 2, 1) := by decide +kernel
theorem dX12_throwMirrors_89 : decode cX12_throwMirrors 89 = .ok (.iaload, 1) := by decide +kernel
theorem dX12_throwMirrors_90 : decode cX12_throwMirrors 90 = .ok (.imul, 1) := by decide +kernel
theorem dX12_throwMirrors_91 : decode cX12_throwMirrors 91 = .ok (.iload 4, 2) := by decide +kernel
theorem dX12_throwMirrors_93 : decode cX12_throwMirrors 93 = .ok (.aload_n 0, 1) := by decide +kernel
theorem dX12_throwMirrors_94 : decode cX12_throwMirrors 94 = .ok (.getfield 45, 3) := by decide +kernel
theorem dX12_throwMirrors_97 : decode cX12_throwMirrors 97 = .ok (.iconst 3, 1) := by decide +kernel
theorem dX12_throwMirrors_98 : decode cX12_throwMirrors 98 = .ok (.iaload, 1) := by decide +kernel
theorem dX12_throwMirrors_99 : decode cX12_throwMirrors 99 = .ok (.imul, 1) := by decide +kernel
theorem dX12_throwMirrors_100 : decode cX12_throwMirrors 100 = .ok (.isub, 1) := by decide +kernel
theorem dX12_throwMirrors_101 : decode cX12_throwMirrors 101 = .ok (.bipush 16, 2) := by decide +kernel
theorem dX12_throwMirrors_103 : decode cX12_throwMirrors 103 = .ok (.idiv, 1) := by decide +kernel
theorem dX12_throwMirrors_104 : decode cX12_throwMirrors 104 = .ok (.iadd, 1) := by decide +kernel
theorem dX12_throwMirrors_105 : decode cX12_throwMirrors 105 = .ok (.istore 4, 2) := by decide +kernel
theorem dX12_throwMirrors_107 : decode cX12_throwMirrors 107 = .ok (.iload_n 1, 1) := by decide +kernel
theorem dX12_throwMirrors_108 : decode cX12_throwMirrors 108 = .ok (.iload_n 3, 1) := by decide +kernel
theorem dX12_throwMirrors_109 : decode cX12_throwMirrors 109 = .ok (.iadd, 1) := by decide +kernel
theorem dX12_throwMirrors_110 : decode cX12_throwMirrors 110 = .ok (.istore_n 1, 1) := by decide +kernel
theorem dX12_throwMirrors_111 : decode cX12_throwMirrors 111 = .ok (.iload_n 2, 1) := by decide +kernel
theorem dX12_throwMirrors_112 : decode cX12_throwMirrors 112 = .ok (.iload 4, 2) := by decide +kernel
theorem dX12_throwMirrors_114 : decode cX12_throwMirrors 114 = .ok (.iadd, 1) := by decide +kernel
theorem dX12_throwMirrors_115 : decode cX12_throwMirrors 115 = .ok (.istore_n 2, 1) := by decide +kernel
theorem dX12_throwMirrors_116 : decode cX12_throwMirrors 116 = .ok (.aload_n 0, 1) := by decide +kernel
theorem dX12_throwMirrors_117 : decode cX12_throwMirrors 117 = .ok (.getfield 64, 3) := by decide +kernel
theorem dX12_throwMirrors_120 : decode cX12_throwMirrors 120 = .ok (.iload 5, 2) := by decide +kernel
theorem dX12_throwMirrors_122 : decode cX12_throwMirrors 122 = .ok (.iload_n 1, 1) := by decide +kernel
theorem dX12_throwMirrors_123 : decode cX12_throwMirrors 123 = .ok (.iastore, 1) := by decide +kernel
theorem dX12_throwMirrors_124 : decode cX12_throwMirrors 124 = .ok (.aload_n 0, 1) := by decide +kernel
theorem dX12_throwMirrors_125 : decode cX12_throwMirrors 125 = .ok (.getfield 67, 3) := by decide +kernel
theorem dX12_throwMirrors_128 : decode cX12_throwMirrors 128 = .ok (.iload 5, 2) := by decide +kernel
theorem dX12_throwMirrors_130 : decode cX12_throwMirrors 130 = .ok (.iload_n 2, 1) := by decide +kernel
theorem dX12_throwMirrors_131 : decode cX12_throwMirrors 131 = .ok (.iastore, 1) := by decide +kernel
theorem dX12_throwMirrors_132 : decode cX12_throwMirrors 132 = .ok (.aload_n 0, 1) := by decide +kernel
theorem dX12_throwMirrors_133 : decode cX12_throwMirrors 133 = .ok (.getfield 70, 3) := by decide +kernel
theorem dX12_throwMirrors_136 : decode cX12_throwMirrors 136 = .ok (.iload 5, 2) := by decide +kernel
theorem dX12_throwMirrors_138 : decode cX12_throwMirrors 138 = .ok (.iconst 0, 1) := by decide +kernel
theorem dX12_throwMirrors_139 : decode cX12_throwMirrors 139 = .ok (.bastore, 1) := by decide +kernel
theorem dX12_throwMirrors_140 : decode cX12_throwMirrors 140 = .ok (.iconst 0, 1) := by decide +kernel
theorem dX12_throwMirrors_141 : decode cX12_throwMirrors 141 = .ok (.istore 6, 2) := by decide +kernel
theorem dX12_throwMirrors_143 : decode cX12_throwMirrors 143 = .ok (.iload 6, 2) := by decide +kernel
theorem dX12_throwMirrors_145 : decode cX12_throwMirrors 145 = .ok (.iconst 4, 1) := by decide +kernel
theorem dX12_throwMirrors_146 : decode cX12_throwMirrors 146 = .ok (.if_icmp .ge 103, 3) := by decide +kernel
theorem dX12_throwMirrors_149 : decode cX12_throwMirrors 149 = .ok (.aload_n 0, 1) := by decide +kernel
theorem dX12_throwMirrors_150 : decode cX12_throwMirrors 150 = .ok (.getfield 70, 3) := by decide +kernel
theorem dX12_throwMirrors_153 : decode cX12_throwMirrors 153 = .ok (.iload 5, 2) := by decide +kernel
theorem dX12_throwMirrors_155 : decode cX12_throwMirrors 155 = .ok (.aload_n 0, 1) := by decide +kernel
theorem dX12_throwMirrors_156 : decode cX12_throwMirrors 156 = .ok (.getfield 70, 3) := by decide +kernel
theorem dX12_throwMirrors_159 : decode cX12_throwMirrors 159 = .ok (.iload 5, 2) := by decide +kernel
theorem dX12_throwMirrors_161 : decode cX12_throwMirrors 161 = .ok (.baload, 1) := by decide +kernel
theorem dX12_throwMirrors_162 : decode cX12_throwMirrors 162 = .ok (.ifCond .ne 75, 3) := by decide +kernel
theorem dX12_throwMirrors_165 : decode cX12_throwMirrors 165 = .ok (.aload_n 0, 1) := by decide +kernel
theorem dX12_throwMirrors_166 : decode cX12_throwMirrors 166 = .ok (.getfield 48, 3) := by decide +kernel
theorem dX12_throwMirrors_169 : decode cX12_throwMirrors 169 = .ok (.iload 6, 2) := by decide +kernel
theorem dX12_throwMirrors_171 : decode cX12_throwMirrors 171 = .ok (.baload, 1) := by decide +kernel
theorem dX12_throwMirrors_172 : decode cX12_throwMirrors 172 = .ok (.ifCond .eq 69, 3) := by decide +kernel
theorem dX12_throwMirrors_175 : decode cX12_throwMirrors 175 = .ok (.iload_n 1, 1) := by decide +kernel
theorem dX12_throwMirrors_176 : decode cX12_throwMirrors 176 = .ok (.i2l, 1) := by decide +kernel
theorem dX12_throwMirrors_177 : decode cX12_throwMirrors 177 = .ok (.aload_n 0, 1) := by decide +kernel
theorem dX12_throwMirrors_178 : decode cX12_throwMirrors 178 = .ok (.getfield 52, 3) := by decide +kernel
theorem dX12_throwMirrors_181 : decode cX12_throwMirrors 181 = .ok (.iconst 4, 1) := by decide +kernel
theorem dX12_throwMirrors_182 : decode cX12_throwMirrors 182 = .ok (.iload 6, 2) := by decide +kernel
theorem dX12_throwMirrors_184 : decode cX12_throwMirrors 184 = .ok (.imul, 1) := by decide +kernel
theorem dX12_throwMirrors_185 : decode cX12_throwMirrors 185 = .ok (.iaload, 1) := by decide +kernel
theorem dX12_throwMirrors_186 : decode cX12_throwMirrors 186 = .ok (.i2l, 1) := by decide +kernel
theorem dX12_throwMirrors_187 : decode cX12_throwMirrors 187 = .ok (.aload_n 0, 1) := by decide +kernel
theorem dX12_throwMirrors_188 : decode cX12_throwMirrors 188 = .ok (.getfield 52, 3) := by decide +kernel
theorem dX12_throwMirrors_191 : decode cX12_throwMirrors 191 = .ok (.iconst 4, 1) := by decide +kernel
theorem dX12_throwMirrors_192 : decode cX12_throwMirrors 192 = .ok (.iload 6, 2) := by decide +kernel
theorem dX12_throwMirrors_194 : decode cX12_throwMirrors 194 = .ok (.imul, 1) := by decide +kernel
theorem dX12_throwMirrors_195 : decode cX12_throwMirrors 195 = .ok (.iconst 2, 1) := by decide +kernel
theorem dX12_throwMirrors_196 : decode cX12_throwMirrors 196 = .ok (.iadd, 1) := by decide +kernel
theorem dX12_throwMirrors_197 : decode cX12_throwMirrors 197 = .ok (.iaload, 1) := by decide +kernel
theorem dX12_throwMirrors_198 : decode cX12_throwMirrors 198 = .ok (.i2l, 1) := by decide +kernel
theorem dX12_throwMirrors_199 : decode cX12_throwMirrors 199 = .ok (.invokestatic 90, 3) := by decide +kernel
theorem dX12_throwMirrors_202 : decode cX12_throwMirrors 202 = .ok (.ifCond .eq 39, 3) := by decide +kernel
theorem dX12_throwMirrors_205 : decode cX12_throwMirrors 205 = .ok (.iload_n 2, 1) := by decide +kernel
theorem dX12_throwMirrors_206 : decode cX12_throwMirrors 206 = .ok (.i2l, 1) := by decide +kernel
theorem dX12_throwMirrors_207 : decode cX12_throwMirrors 207 = .ok (.aload_n 0, 1) := by decide +kernel
theorem dX12_throwMirrors_208 : decode cX12_throwMirrors 208 = .ok (.getfield 52, 3) := by decide +kernel
theorem dX12_throwMirrors_211 : decode cX12_throwMirrors 211 = .ok (.iconst 4, 1) := by decide +kernel
theorem dX12_throwMirrors_212 : decode cX12_throwMirrors 212 = .ok (.iload 6, 2) := by decide +kernel
theorem dX12_throwMirrors_214 : decode cX12_throwMirrors 214 = .ok (.imul, 1) := by decide +kernel
theorem dX12_throwMirrors_215 : decode cX12_throwMirrors 215 = .ok (.iconst 1, 1) := by decide +kernel
theorem dX12_throwMirrors_216 : decode cX12_throwMirrors 216 = .ok (.iadd, 1) := by decide +kernel
theorem dX12_throwMirrors_217 : decode cX12_throwMirrors 217 = .ok (.iaload, 1) := by decide +kernel
theorem dX12_throwMirrors_218 : decode cX12_throwMirrors 218 = .ok (.i2l, 1) := by decide +kernel
theorem dX12_throwMirrors_219 : decode cX12_throwMirrors 219 = .ok (.aload_n 0, 1) := by decide +kernel
theorem dX12_throwMirrors_220 : decode cX12_throwMirrors 220 = .ok (.getfield 52, 3) := by decide +kernel
theorem dX12_throwMirrors_223 : decode cX12_throwMirrors 223 = .ok (.iconst 4, 1) := by decide +kernel
theorem dX12_throwMirrors_224 : decode cX12_throwMirrors 224 = .ok (.iload 6, 2) := by decide +kernel
theorem dX12_throwMirrors_226 : decode cX12_throwMirrors 226 = .ok (.imul, 1) := by decide +kernel
theorem dX12_throwMirrors_227 : decode cX12_throwMirrors 227 = .ok (.iconst 3, 1) := by decide +kernel
theorem dX12_throwMirrors_228 : decode cX12_throwMirrors 228 = .ok (.iadd, 1) := by decide +kernel
theorem dX12_throwMirrors_229 : decode cX12_throwMirrors 229 = .ok (.iaload, 1) := by decide +kernel
theorem dX12_throwMirrors_230 : decode cX12_throwMirrors 230 = .ok (.i2l, 1) := by decide +kernel
theorem dX12_throwMirrors_231 : decode cX12_throwMirrors 231 = .ok (.invokestatic 90, 3) := by decide +kernel
theorem dX12_throwMirrors_234 : decode cX12_throwMirrors 234 = .ok (.ifCond .eq 7, 3) := by decide +kernel
theorem dX12_throwMirrors_237 : decode cX12_throwMirrors 237 = .ok (.iconst 1, 1) := by decide +kernel
theorem dX12_throwMirrors_238 : decode cX12_throwMirrors 238 = .ok (.goto 4, 3) := by decide +kernel
theorem dX12_throwMirrors_241 : decode cX12_throwMirrors 241 = .ok (.iconst 0, 1) := by decide +kernel
theorem dX12_throwMirrors_242 : decode cX12_throwMirrors 242 = .ok (.bastore, 1) := by decide +kernel
theorem dX12_throwMirrors_243 : decode cX12_throwMirrors 243 = .ok (.iinc 6 1, 3) := by decide +kernel
theorem dX12_throwMirrors_246 : decode cX12_throwMirrors 246 = .ok (.goto (-103), 3) := by decide +kernel
theorem dX12_throwMirrors_249 : decode cX12_throwMirrors 249 = .ok (.aload_n 0, 1) := by decide +kernel
theorem dX12_throwMirrors_250 : decode cX12_throwMirrors 250 = .ok (.iload 5, 2) := by decide +kernel
theorem dX12_throwMirrors_252 : decode cX12_throwMirrors 252 = .ok (.invokevirtual 179, 3) := by decide +kernel
theorem dX12_throwMirrors_255 : decode cX12_throwMirrors 255 = .ok (.ifCond .eq 48, 3) := by decide +kernel
theorem dX12_throwMirrors_258 : decode cX12_throwMirrors 258 = .ok (.iload_n 1, 1) := by decide +kernel
theorem dX12_throwMirrors_259 : decode cX12_throwMirrors 259 = .ok (.i2l, 1) := by decide +kernel
theorem dX12_throwMirrors_260 : decode cX12_throwMirrors 260 = .ok (.lconst 0, 1) := by decide +kernel
theorem dX12_throwMirrors_261 : decode cX12_throwMirrors 261 = .ok (.ldc2_w 111, 3) := by decide +kernel
theorem dX12_throwMirrors_264 : decode cX12_throwMirrors 264 = .ok (.invokestatic 90, 3) := by decide +kernel
theorem dX12_throwMirrors_267 : decode cX12_throwMirrors 267 = .ok (.ifCond .eq 36, 3) := by decide +kernel
theorem dX12_throwMirrors_270 : decode cX12_throwMirrors 270 = .ok (.iload_n 2, 1) := by decide +kernel
theorem dX12_throwMirrors_271 : decode cX12_throwMirrors 271 = .ok (.i2l, 1) := by decide +kernel
theorem dX12_throwMirrors_272 : decode cX12_throwMirrors 272 = .ok (.lconst 0, 1) := by decide +kernel
theorem dX12_throwMirrors_273 : decode cX12_throwMirrors 273 = .ok (.ldc2_w 111, 3) := by decide +kernel
theorem dX12_throwMirrors_276 : decode cX12_throwMirrors 276 = .ok (.invokestatic 90, 3) := by decide +kernel
theorem dX12_throwMirrors_279 : decode cX12_throwMirrors 279 = .ok (.ifCond .eq 24, 3) := by decide +kernel
theorem dX12_throwMirrors_282 : decode cX12_throwMirrors 282 = .ok (.aload_n 0, 1) := by decide +kernel
theorem dX12_throwMirrors_283 : decode cX12_throwMirrors 283 = .ok (.getfield 73, 3) := by decide +kernel
theorem dX12_throwMirrors_286 : decode cX12_throwMirrors 286 = .ok (.bipush 11, 2) := by decide +kernel
theorem dX12_throwMirrors_288 : decode cX12_throwMirrors 288 = .ok (.iload_n 2, 1) := by decide +kernel
theorem dX12_throwMirrors_289 : decode cX12_throwMirrors 289 = .ok (.bipush 100, 2) := by decide +kernel
theorem dX12_throwMirrors_291 : decode cX12_throwMirrors 291 = .ok (.idiv, 1) := by decide +kernel
theorem dX12_throwMirrors_292 : decode cX12_throwMirrors 292 = .ok (.imul, 1) := by decide +kernel
theorem dX12_throwMirrors_293 : decode cX12_throwMirrors 293 = .ok (.iload_n 1, 1) := by decide +kernel
theorem dX12_throwMirrors_294 : decode cX12_throwMirrors 294 = .ok (.bipush 100, 2) := by decide +kernel
theorem dX12_throwMirrors_296 : decode cX12_throwMirrors 296 = .ok (.idiv, 1) := by decide +kernel
theorem dX12_throwMirrors_297 : decode cX12_throwMirrors 297 = .ok (.iadd, 1) := by decide +kernel
theorem dX12_throwMirrors_298 : decode cX12_throwMirrors 298 = .ok (.dup2, 1) := by decide +kernel
theorem dX12_throwMirrors_299 : decode cX12_throwMirrors 299 = .ok (.iaload, 1) := by decide +kernel
theorem dX12_throwMirrors_300 : decode cX12_throwMirrors 300 = .ok (.iconst 1, 1) := by decide +kernel
theorem dX12_throwMirrors_301 : decode cX12_throwMirrors 301 = .ok (.iadd, 1) := by decide +kernel
theorem dX12_throwMirrors_302 : decode cX12_throwMirrors 302 = .ok (.iastore, 1) := by decide +kernel
theorem dX12_throwMirrors_303 : decode cX12_throwMirrors 303 = .ok (.iinc 5 1, 3) := by decide +kernel
theorem dX12_throwMirrors_306 : decode cX12_throwMirrors 306 = .ok (.goto (-273), 3) := by decide +kernel
theorem dX12_throwMirrors_309 : decode cX12_throwMirrors 309 = .ok (.return_, 1) := by decide +kernel
theorem dX12_isLit_0 : decode cX12_isLit 0 = .ok (.iload_n 1, 1) := by decide +kernel
theorem dX12_isLit_1 : decode cX12_isLit 1 = .ok (.aload_n 0, 1) := by decide +kernel
theorem dX12_isLit_2 : decode cX12_isLit 2 = .ok (.getfield 45, 3) := by decide +kernel
theorem dX12_isLit_5 : decode cX12_isLit 5 = .ok (.iconst 4, 1) := by decide +kernel
theorem dX12_isLit_6 : decode cX12_isLit 6 = .ok (.iaload, 1) := by decide +kernel
theorem dX12_isLit_7 : decode cX12_isLit 7 = .ok (.if_icmp .lt 32, 3) := by decide +kernel
theorem dX12_isLit_10 : decode cX12_isLit 10 = .ok (.aload_n 0, 1) := by decide +kernel
theorem dX12_isLit_11 : decode cX12_isLit 11 = .ok (.getfield 61, 3) := by decide +kernel
theorem dX12_isLit_14 : decode cX12_isLit 14 = .ok (.iload_n 1, 1) := by decide +kernel
theorem dX12_isLit_15 : decode cX12_isLit 15 = .ok (.aload_n 0, 1) := by decide +kernel
theorem dX12_isLit_16 : decode cX12_isLit 16 = .ok (.getfield 45, 3) := by decide +kernel
theorem dX12_isLit_19 : decode cX12_isLit 19 = .ok (.iconst 4, 1) := by decide +kernel
theorem dX12_isLit_20 : decode cX12_isLit 20 = .ok (.iaload, 1) := by decide +kernel
theorem dX12_isLit_21 : decode cX12_isLit 21 = .ok (.isub, 1) := by decide +kernel
theorem dX12_isLit_22 : decode cX12_isLit 22 = .ok (.baload, 1) := by decide +kernel
theorem dX12_isLit_23 : decode cX12_isLit 23 = .ok (.ifCond .eq 16, 3) := by decide +kernel
theorem dX12_isLit_26 : decode cX12_isLit 26 = .ok (.aload_n 0, 1) := by decide +kernel
theorem dX12_isLit_27 : decode cX12_isLit 27 = .ok (.getfield 70, 3) := by decide +kernel
theorem dX12_isLit_30 : decode cX12_isLit 30 = .ok (.iload_n 1, 1) := by decide +kernel
theorem dX12_isLit_31 : decode cX12_isLit 31 = .ok (.baload, 1) := by decide +kernel
theorem dX12_isLit_32 : decode cX12_isLit 32 = .ok (.ifCond .ne 7, 3) := by decide +kernel
theorem dX12_isLit_35 : decode cX12_isLit 35 = .ok (.iconst 1, 1) := by decide +kernel
theorem dX12_isLit_36 : decode cX12_isLit 36 = .ok (.goto 4, 3) := by decide +kernel
theorem dX12_isLit_39 : decode cX12_isLit 39 = .ok (.iconst 0, 1) := by decide +kernel
theorem dX12_isLit_40 : decode cX12_isLit 40 = .ok (.ireturn, 1) := by decide +kernel
set_option maxRecDepth 20000 in
theorem ggX12_lag_X12_way : GoodIn wsX12_lag wsX12_way := goodIn_r _ [9, 10, 11, 8, 12] (by decide +kernel) (by decide +kernel)
set_option maxRecDepth 20000 in
theorem gX12_lag_X12_way : GoodIn wsX12_lag (va_wsS RX12 123 yX12_way wsX12_way) := goodIn_app (goodIn_of _ (by decide +kernel)) ggX12_lag_X12_way
theorem dX12_lag_0 : decode cX12_lag 0 = .ok (.aload_n 0, 1) := by decide +kernel
theorem dX12_lag_1 : decode cX12_lag 1 = .ok (.getfield 61, 3) := by decide +kernel
theorem dX12_lag_4 : decode cX12_lag 4 = .ok (.iload_n 1, 1) := by decide +kernel
theorem dX12_lag_5 : decode cX12_lag 5 = .ok (.baload, 1) := by decide +kernel
theorem dX12_lag_6 : decode cX12_lag 6 = .ok (.ifCond .eq 33, 3) := by decide +kernel
theorem dX12_lag_9 : decode cX12_lag 9 = .ok (.aload_n 0, 1) := by decide +kernel
theorem dX12_lag_10 : decode cX12_lag 10 = .ok (.getfield 55, 3) := by decide +kernel
theorem dX12_lag_13 : decode cX12_lag 13 = .ok (.iload_n 1, 1) := by decide +kernel
theorem dX12_lag_14 : decode cX12_lag 14 = .ok (.iaload, 1) := by decide +kernel
theorem dX12_lag_15 : decode cX12_lag 15 = .ok (.aload_n 0, 1) := by decide +kernel
theorem dX12_lag_16 : decode cX12_lag 16 = .ok (.getfield 58, 3) := by decide +kernel
theorem dX12_lag_19 : decode cX12_lag 19 = .ok (.iload_n 1, 1) := by decide +kernel
theorem dX12_lag_20 : decode cX12_lag 20 = .ok (.iaload, 1) := by decide +kernel
theorem dX12_lag_21 : decode cX12_lag 21 = .ok (.aload_n 0, 1) := by decide +kernel
theorem dX12_lag_22 : decode cX12_lag 22 = .ok (.getfield 64, 3) := by decide +kernel
theorem dX12_lag_25 : decode cX12_lag 25 = .ok (.iload_n 1, 1) := by decide +kernel
theorem dX12_lag_26 : decode cX12_lag 26 = .ok (.iaload, 1) := by decide +kernel
