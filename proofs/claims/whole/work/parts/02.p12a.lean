theorem dX12_in_0 : decode cX12_in 0 = .ok (.lload_n 0, 1) := by decide +kernel
theorem dX12_in_1 : decode cX12_in 1 = .ok (.lload_n 2, 1) := by decide +kernel
theorem dX12_in_2 : decode cX12_in 2 = .ok (.lcmp, 1) := by decide +kernel
theorem dX12_in_3 : decode cX12_in 3 = .ok (.ifCond .lt 14, 3) := by decide +kernel
theorem dX12_in_6 : decode cX12_in 6 = .ok (.lload_n 0, 1) := by decide +kernel
theorem dX12_in_7 : decode cX12_in 7 = .ok (.lload 4, 2) := by decide +kernel
theorem dX12_in_9 : decode cX12_in 9 = .ok (.lcmp, 1) := by decide +kernel
theorem dX12_in_10 : decode cX12_in 10 = .ok (.ifCond .gt 7, 3) := by decide +kernel
theorem dX12_in_13 : decode cX12_in 13 = .ok (.iconst 1, 1) := by decide +kernel
theorem dX12_in_14 : decode cX12_in 14 = .ok (.goto 4, 3) := by decide +kernel
theorem dX12_in_17 : decode cX12_in 17 = .ok (.iconst 0, 1) := by decide +kernel
theorem dX12_in_18 : decode cX12_in 18 = .ok (.ireturn, 1) := by decide +kernel
theorem dX12_found_0 : decode cX12_found 0 = .ok (.aload_n 0, 1) := by decide +kernel
theorem dX12_found_1 : decode cX12_found 1 = .ok (.iload_n 1, 1) := by decide +kernel
theorem dX12_found_2 : decode cX12_found 2 = .ok (.putfield 7, 3) := by decide +kernel
theorem dX12_found_5 : decode cX12_found 5 = .ok (.ldc 10, 2) := by decide +kernel
theorem dX12_found_7 : decode cX12_found 7 = .ok (.iload_n 1, 1) := by decide +kernel
theorem dX12_found_8 : decode cX12_found 8 = .ok (.isub, 1) := by decide +kernel
theorem dX12_found_9 : decode cX12_found 9 = .ok (.ireturn, 1) := by decide +kernel
theorem dX12_init_0 : decode cX12_init 0 = .ok (.aload_n 0, 1) := by decide +kernel
theorem dX12_init_1 : decode cX12_init 1 = .ok (.invokespecial 11, 3) := by decide +kernel
theorem dX12_init_4 : decode cX12_init 4 = .ok (.aload_n 0, 1) := by decide +kernel
theorem dX12_init_5 : decode cX12_init 5 = .ok (.bipush 8, 2) := by decide +kernel
theorem dX12_init_7 : decode cX12_init 7 = .ok (.newarray .int, 2) := by decide +kernel
theorem dX12_init_9 : decode cX12_init 9 = .ok (.dup, 1) := by decide +kernel
theorem dX12_init_10 : decode cX12_init 10 = .ok (.iconst 0, 1) := by decide +kernel
theorem dX12_init_11 : decode cX12_init 11 = .ok (.iconst (-1), 1) := by decide +kernel
theorem dX12_init_12 : decode cX12_init 12 = .ok (.iastore, 1) := by decide +kernel
theorem dX12_init_13 : decode cX12_init 13 = .ok (.dup, 1) := by decide +kernel
theorem dX12_init_14 : decode cX12_init 14 = .ok (.iconst 1, 1) := by decide +kernel
theorem dX12_init_15 : decode cX12_init 15 = .ok (.iconst (-1), 1) := by decide +kernel
theorem dX12_init_16 : decode cX12_init 16 = .ok (.iastore, 1) := by decide +kernel
theorem dX12_init_17 : decode cX12_init 17 = .ok (.dup, 1) := by decide +kernel
theorem dX12_init_18 : decode cX12_init 18 = .ok (.iconst 2, 1) := by decide +kernel
theorem dX12_init_19 : decode cX12_init 19 = .ok (.iconst (-1), 1) := by decide +kernel
theorem dX12_init_20 : decode cX12_init 20 = .ok (.iastore, 1) := by decide +kernel
theorem dX12_init_21 : decode cX12_init 21 = .ok (.dup, 1) := by decide +kernel
theorem dX12_init_22 : decode cX12_init 22 = .ok (.iconst 3, 1) := by decide +kernel
theorem dX12_init_23 : decode cX12_init 23 = .ok (.iconst (-1), 1) := by decide +kernel
theorem dX12_init_24 : decode cX12_init 24 = .ok (.iastore, 1) := by decide +kernel
theorem dX12_init_25 : decode cX12_init 25 = .ok (.dup, 1) := by decide +kernel
theorem dX12_init_26 : decode cX12_init 26 = .ok (.iconst 4, 1) := by decide +kernel
theorem dX12_init_27 : decode cX12_init 27 = .ok (.iconst (-1), 1) := by decide +kernel
theorem dX12_init_28 : decode cX12_init 28 = .ok (.iastore, 1) := by decide +kernel
theorem dX12_init_29 : decode cX12_init 29 = .ok (.dup, 1) := by decide +kernel
theorem dX12_init_30 : decode cX12_init 30 = .ok (.iconst 5, 1) := by decide +kernel
theorem dX12_init_31 : decode cX12_init 31 = .ok (.iconst (-1), 1) := by decide +kernel
theorem dX12_init_32 : decode cX12_init 32 = .ok (.iastore, 1) := by decide +kernel
theorem dX12_init_33 : decode cX12_init 33 = .ok (.dup, 1) := by decide +kernel
theorem dX12_init_34 : decode cX12_init 34 = .ok (.bipush 6, 2) := by decide +kernel
theorem dX12_init_36 : decode cX12_init 36 = .ok (.iconst (-1), 1) := by decide +kernel
theorem dX12_init_37 : decode cX12_init 37 = .ok (.iastore, 1) := by decide +kernel
theorem dX12_init_38 : decode cX12_init 38 = .ok (.dup, 1) := by decide +kernel
theorem dX12_init_39 : decode cX12_init 39 = .ok (.bipush 7, 2) := by decide +kernel
theorem dX12_init_41 : decode cX12_init 41 = .ok (.iconst (-1), 1) := by decide +kernel
theorem dX12_init_42 : decode cX12_init 42 = .ok (.iastore, 1) := by decide +kernel
theorem dX12_init_43 : decode cX12_init 43 = .ok (.putfield 17, 3) := by decide +kernel
theorem dX12_init_46 : decode cX12_init 46 = .ok (.aload_n 0, 1) := by decide +kernel
theorem dX12_init_47 : decode cX12_init 47 = .ok (.bipush 8, 2) := by decide +kernel
theorem dX12_init_49 : decode cX12_init 49 = .ok (.newarray .int, 2) := by decide +kernel
theorem dX12_init_51 : decode cX12_init 51 = .ok (.putfield 21, 3) := by decide +kernel
theorem dX12_init_54 : decode cX12_init 54 = .ok (.aload_n 0, 1) := by decide +kernel
theorem dX12_init_55 : decode cX12_init 55 = .ok (.sipush 320, 3) := by decide +kernel
theorem dX12_init_58 : decode cX12_init 58 = .ok (.newarray .int, 2) := by decide +kernel
theorem dX12_init_60 : decode cX12_init 60 = .ok (.putfield 24, 3) := by decide +kernel
theorem dX12_init_63 : decode cX12_init 63 = .ok (.aload_n 0, 1) := by decide +kernel
theorem dX12_init_64 : decode cX12_init 64 = .ok (.bipush 8, 2) := by decide +kernel
theorem dX12_init_66 : decode cX12_init 66 = .ok (.newarray .int, 2) := by decide +kernel
theorem dX12_init_68 : decode cX12_init 68 = .ok (.putfield 27, 3) := by decide +kernel
theorem dX12_init_71 : decode cX12_init 71 = .ok (.aload_n 0, 1) := by decide +kernel
theorem dX12_init_72 : decode cX12_init 72 = .ok (.bipush 64, 2) := by decide +kernel
theorem dX12_init_74 : decode cX12_init 74 = .ok (.newarray .int, 2) := by decide +kernel
theorem dX12_init_76 : decode cX12_init 76 = .ok (.putfield 30, 3) := by decide +kernel
theorem dX12_init_79 : decode cX12_init 79 = .ok (.aload_n 0, 1) := by decide +kernel
theorem dX12_init_80 : decode cX12_init 80 = .ok (.bipush 64, 2) := by decide +kernel
theorem dX12_init_82 : decode cX12_init 82 = .ok (.newarray .int, 2) := by decide +kernel
theorem dX12_init_84 : decode cX12_init 84 = .ok (.putfield 33, 3) := by decide +kernel
theorem dX12_init_87 : decode cX12_init 87 = .ok (.aload_n 0, 1) := by decide +kernel
theorem dX12_init_88 : decode cX12_init 88 = .ok (.bipush 8, 2) := by decide +kernel
theorem dX12_init_90 : decode cX12_init 90 = .ok (.newarray .int, 2) := by decide +kernel
theorem dX12_init_92 : decode cX12_init 92 = .ok (.putfield 36, 3) := by decide +kernel
theorem dX12_init_95 : decode cX12_init 95 = .ok (.aload_n 0, 1) := by decide +kernel
theorem dX12_init_96 : decode cX12_init 96 = .ok (.bipush 8, 2) := by decide +kernel
theorem dX12_init_98 : decode cX12_init 98 = .ok (.newarray .int, 2) := by decide +kernel
theorem dX12_init_100 : decode cX12_init 100 = .ok (.putfield 39, 3) := by decide +kernel
theorem dX12_init_103 : decode cX12_init 103 = .ok (.aload_n 0, 1) := by decide +kernel
theorem dX12_init_104 : decode cX12_init 104 = .ok (.sipush 4096, 3) := by decide +kernel
theorem dX12_init_107 : decode cX12_init 107 = .ok (.newarray .int, 2) := by decide +kernel
theorem dX12_init_109 : decode cX12_init 109 = .ok (.putfield 42, 3) := by decide +kernel
theorem dX12_init_112 : decode cX12_init 112 = .ok (.aload_n 0, 1) := by decide +kernel
theorem dX12_init_113 : decode cX12_init 113 = .ok (.bipush 6, 2) := by decide +kernel
theorem dX12_init_115 : decode cX12_init 115 = .ok (.newarray .int, 2) := by decide +kernel
theorem dX12_init_117 : decode cX12_init 117 = .ok (.putfield 45, 3) := by decide +kernel
theorem dX12_init_120 : decode cX12_init 120 = .ok (.aload_n 0, 1) := by decide +kernel
theorem dX12_init_121 : decode cX12_init 121 = .ok (.iconst 4, 1) := by decide +kernel
theorem dX12_init_122 : decode cX12_init 122 = .ok (.newarray .boolean, 2) := by decide +kernel
theorem dX12_init_124 : decode cX12_init 124 = .ok (.putfield 48, 3) := by decide +kernel
theorem dX12_init_127 : decode cX12_init 127 = .ok (.aload_n 0, 1) := by decide +kernel
theorem dX12_init_128 : decode cX12_init 128 = .ok (.bipush 16, 2) := by decide +kernel
theorem dX12_init_130 : decode cX12_init 130 = .ok (.newarray .int, 2) := by decide +kernel
theorem dX12_init_132 : decode cX12_init 132 = .ok (.putfield 52, 3) := by decide +kernel
theorem dX12_init_135 : decode cX12_init 135 = .ok (.aload_n 0, 1) := by decide +kernel
theorem dX12_init_136 : decode cX12_init 136 = .ok (.sipush 2000, 3) := by decide +kernel
theorem dX12_init_139 : decode cX12_init 139 = .ok (.newarray .int, 2) := by decide +kernel
theorem dX12_init_141 : decode cX12_init 141 = .ok (.putfield 55, 3) := by decide +kernel
theorem dX12_init_144 : decode cX12_init 144 = .ok (.aload_n 0, 1) := by decide +kernel
theorem dX12_init_145 : decode cX12_init 145 = .ok (.sipush 2000, 3) := by decide +kernel
theorem dX12_init_148 : decode cX12_init 148 = .ok (.newarray .int, 2) := by decide +kernel
theorem dX12_init_150 : decode cX12_init 150 = .ok (.putfield 58, 3) := by decide +kernel
theorem dX12_init_153 : decode cX12_init 153 = .ok (.aload_n 0, 1) := by decide +kernel
theorem dX12_init_154 : decode cX12_init 154 = .ok (.sipush 2000, 3) := by decide +kernel
theorem dX12_init_157 : decode cX12_init 157 = .ok (.newarray .boolean, 2) := by decide +kernel
theorem dX12_init_159 : decode cX12_init 159 = .ok (.putfield 61, 3) := by decide +kernel
theorem dX12_init_162 : decode cX12_init 162 = .ok (.aload_n 0, 1) := by decide +kernel
theorem dX12_init_163 : decode cX12_init 163 = .ok (.sipush 2000, 3) := by decide +kernel
theorem dX12_init_166 : decode cX12_init 166 = .ok (.newarray .int, 2) := by decide +kernel
theorem dX12_init_168 : decode cX12_init 168 = .ok (.putfield 64, 3) := by decide +kernel
theorem dX12_init_171 : decode cX12_init 171 = .ok (.aload_n 0, 1) := by decide +kernel
theorem dX12_init_172 : decode cX12_init 172 = .ok (.sipush 2000, 3) := by decide +kernel
theorem dX12_init_175 : decode cX12_init 175 = .ok (.newarray .int, 2) := by decide +kernel
theorem dX12_init_177 : decode cX12_init 177 = .ok (.putfield 67, 3) := by decide +kernel
theorem dX12_init_180 : decode cX12_init 180 = .ok (.aload_n 0, 1) := by decide +kernel
theorem dX12_init_181 : decode cX12_init 181 = .ok (.sipush 2000, 3) := by decide +kernel
theorem dX12_init_184 : decode cX12_init 184 = .ok (.newarray .boolean, 2) := by decide +kernel
theorem dX12_init_186 : decode cX12_init 186 = .ok (.putfield 70, 3) := by decide +kernel
theorem dX12_init_189 : decode cX12_init 189 = .ok (.aload_n 0, 1) := by decide +kernel
theorem dX12_init_190 : decode cX12_init 190 = .ok (.bipush 121, 2) := by decide +kernel
theorem dX12_init_192 : decode cX12_init 192 = .ok (.newarray .int, 2) := by decide +kernel
theorem dX12_init_194 : decode cX12_init 194 = .ok (.putfield 73, 3) := by decide +kernel
theorem dX12_init_197 : decode cX12_init 197 = .ok (.aload_n 0, 1) := by decide +kernel
theorem dX12_init_198 : decode cX12_init 198 = .ok (.sipush 300, 3) := by decide +kernel
theorem dX12_init_201 : decode cX12_init 201 = .ok (.newarray .int, 2) := by decide +kernel
theorem dX12_init_203 : decode cX12_init 203 = .ok (.putfield 76, 3) := by decide +kernel
theorem dX12_init_206 : decode cX12_init 206 = .ok (.aload_n 0, 1) := by decide +kernel
theorem dX12_init_207 : decode cX12_init 207 = .ok (.bipush 48, 2) := by decide +kernel
theorem dX12_init_209 : decode cX12_init 209 = .ok (.newarray .int, 2) := by decide +kernel
theorem dX12_init_211 : decode cX12_init 211 = .ok (.putfield 79, 3) := by decide +kernel
theorem dX12_init_214 : decode cX12_init 214 = .ok (.aload_n 0, 1) := by decide +kernel
theorem dX12_init_215 : decode cX12_init 215 = .ok (.bipush 48, 2) := by decide +kernel
theorem dX12_init_217 : decode cX12_init 217 = .ok (.newarray .int, 2) := by decide +kernel
theorem dX12_init_219 : decode cX12_init 219 = .ok (.putfield 82, 3) := by decide +kernel
theorem dX12_init_222 : decode cX12_init 222 = .ok (.aload_n 0, 1) := by decide +kernel
theorem dX12_init_223 : decode cX12_init 223 = .ok (.bipush 16, 2) := by decide +kernel
theorem dX12_init_225 : decode cX12_init 225 = .ok (.newarray .int, 2) := by decide +kernel
theorem dX12_init_227 : decode cX12_init 227 = .ok (.putfield 85, 3) := by decide +kernel
theorem dX12_init_230 : decode cX12_init 230 = .ok (.aload_n 0, 1) := by decide +kernel
theorem dX12_init_231 : decode cX12_init 231 = .ok (.getfield 45, 3) := by decide +kernel
theorem dX12_init_234 : decode cX12_init 234 = .ok (.iconst 0, 1) := by decide +kernel
theorem dX12_init_235 : decode cX12_init 235 = .ok (.bipush 50, 2) := by decide +kernel
theorem dX12_init_237 : decode cX12_init 237 = .ok (.iastore, 1) := by decide +kernel
theorem dX12_init_238 : decode cX12_init 238 = .ok (.aload_n 0, 1) := by decide +kernel
theorem dX12_init_239 : decode cX12_init 239 = .ok (.getfield 45, 3) := by decide +kernel
theorem dX12_init_242 : decode cX12_init 242 = .ok (.iconst 1, 1) := by decide +kernel
theorem dX12_init_243 : decode cX12_init 243 = .ok (.iconst 1, 1) := by decide +kernel
theorem dX12_init_244 : decode cX12_init 244 = .ok (.iastore, 1) := by decide +kernel
theorem dX12_init_245 : decode cX12_init 245 = .ok (.aload_n 0, 1) := by decide +kernel
theorem dX12_init_246 : decode cX12_init 246 = .ok (.getfield 45, 3) := by decide +kernel
theorem dX12_init_249 : decode cX12_init 249 = .ok (.iconst 2, 1) := by decide +kernel
theorem dX12_init_250 : decode cX12_init 250 = .ok (.bipush 8, 2) := by decide +kernel
theorem dX12_init_252 : decode cX12_init 252 = .ok (.iastore, 1) := by decide +kernel
theorem dX12_init_253 : decode cX12_init 253 = .ok (.aload_n 0, 1) := by decide +kernel
theorem dX12_init_254 : decode cX12_init 254 = .ok (.getfield 45, 3) := by decide +kernel
theorem dX12_init_257 : decode cX12_init 257 = .ok (.iconst 3, 1) := by decide +kernel
theorem dX12_init_258 : decode cX12_init 258 = .ok (.bipush 10, 2) := by decide +kernel
theorem dX12_init_260 : decode cX12_init 260 = .ok (.iastore, 1) := by decide +kernel
theorem dX12_init_261 : decode cX12_init 261 = .ok (.aload_n 0, 1) := by decide +kernel
theorem dX12_init_262 : decode cX12_init 262 = .ok (.getfield 45, 3) := by decide +kernel
theorem dX12_init_265 : decode cX12_init 265 = .ok (.iconst 4, 1) := by decide +kernel
theorem dX12_init_266 : decode cX12_init 266 = .ok (.iconst 0, 1) := by decide +kernel
theorem dX12_init_267 : decode cX12_init 267 = .ok (.iastore, 1) := by decide +kernel
theorem dX12_init_268 : decode cX12_init 268 = .ok (.aload_n 0, 1) := by decide +kernel
theorem dX12_init_269 : decode cX12_init 269 = .ok (.getfield 45, 3) := by decide +kernel
theorem dX12_init_272 : decode cX12_init 272 = .ok (.iconst 5, 1) := by decide +kernel
theorem dX12_init_273 : decode cX12_init 273 = .ok (.bipush 40, 2) := by decide +kernel
theorem dX12_init_275 : decode cX12_init 275 = .ok (.iastore, 1) := by decide +kernel
theorem dX12_init_276 : decode cX12_init 276 = .ok (.return_, 1) := by decide +kernel
set_option maxRecDepth 20000 in
theorem ggX12_isSheet_X12_in : GoodIn wsX12_isSheet wsX12_in := goodIn_r _ [5] (by decide +kernel) (by decide +kernel)
set_option maxRecDepth 20000 in
theorem gX12_isSheet_X12_in : GoodIn wsX12_isSheet (va_wsS RX12 90 yX12_in wsX12_in) := goodIn_app (goodIn_of _ (by decide +kernel)) ggX12_isSheet_X12_in
theorem dX12_isSheet_0 : decode cX12_isSheet 0 = .ok (.iload_n 0, 1) := by decide +kernel
theorem dX12_isSheet_1 : decode cX12_isSheet 1 = .ok (.i2l, 1) := by decide +kernel
theorem dX12_isSheet_2 : decode cX12_isSheet 2 = .ok (.lconst 0, 1) := by decide +kernel
theorem dX12_isSheet_3 : decode cX12_isSheet 3 = .ok (.ldc2_w 88, 3) := by decide +kernel
theorem dX12_isSheet_6 : decode cX12_isSheet 6 = .ok (.invokestatic 90, 3) := by decide +kernel
theorem dX12_isSheet_9 : decode cX12_isSheet 9 = .ok (.ireturn, 1) := by decide +kernel
set_option maxRecDepth 20000 in
theorem ggX12_sheet_X12_isSheet : GoodIn wsX12_sheet wsX12_isSheet := goodIn_r _ [11, 12, 13, 14, 10, 15] (by decide +kernel) (by decide +kernel)
set_option maxRecDepth 20000 in
theorem gX12_sheet_X12_isSheet : GoodIn wsX12_sheet (va_wsS RX12 94 yX12_isSheet wsX12_isSheet) := goodIn_app (goodIn_of _ (by decide +kernel)) ggX12_sheet_X12_isSheet
set_option maxRecDepth 20000 in
theorem ggX12_sheet_X12_in : GoodIn wsX12_sheet wsX12_in := goodIn_r _ [15] (by decide +kernel) (by decide +kernel)
set_option maxRecDepth 20000 in
theorem gX12_sheet_X12_in : GoodIn wsX12_sheet (va_wsS RX12 90 yX12_in wsX12_in) := goodIn_app (goodIn_of _ (by decide +kernel)) ggX12_sheet_X12_in
set_option maxRecDepth 20000 in
theorem ggX12_sheet_X12_found : GoodIn wsX12_sheet wsX12_found := goodIn_r _ [19, 4, 20, 21, 22, 23, 24, 25, 26, 27, 28, 29, 30, 31, 32, 33, 34, 35, 36, 37, 38, 39, 40, 41, 42, 43, 44, 45, 46, 47, 48, 49, 50, 51, 52, 53, 54, 55, 56, 57, 58, 59, 60, 61, 62] (by decide +kernel) (by decide +kernel)
set_option maxRecDepth 20000 in
theorem gX12_sheet_X12_found : GoodIn wsX12_sheet (wsV RX12 101 RX12 yX12_found wsX12_found) := goodIn_app (goodIn_of _ (by decide +kernel)) ggX12_sheet_X12_found
theorem dX12_sheet_0 : decode cX12_sheet 0 = .ok (.aload_n 0, 1) := by decide +kernel
theorem dX12_sheet_1 : decode cX12_sheet 1 = .ok (.iconst 0, 1) := by decide +kernel
theorem dX12_sheet_2 : decode cX12_sheet 2 = .ok (.putfield 1, 3) := by decide +kernel
theorem dX12_sheet_5 : decode cX12_sheet 5 = .ok (.iload_n 1, 1) := by decide +kernel
theorem dX12_sheet_6 : decode cX12_sheet 6 = .ok (.invokestatic 94, 3) := by decide +kernel
theorem dX12_sheet_9 : decode cX12_sheet 9 = .ok (.ifCond .eq 21, 3) := by decide +kernel
theorem dX12_sheet_12 : decode cX12_sheet 12 = .ok (.iload_n 2, 1) := by decide +kernel
theorem dX12_sheet_13 : decode cX12_sheet 13 = .ok (.i2l, 1) := by decide +kernel
theorem dX12_sheet_14 : decode cX12_sheet 14 = .ok (.lconst 0, 1) := by decide +kernel
theorem dX12_sheet_15 : decode cX12_sheet 15 = .ok (.ldc2_w 98, 3) := by decide +kernel
theorem dX12_sheet_18 : decode cX12_sheet 18 = .ok (.invokestatic 90, 3) := by decide +kernel
theorem dX12_sheet_21 : decode cX12_sheet 21 = .ok (.ifCond .eq 9, 3) := by decide +kernel
theorem dX12_sheet_24 : decode cX12_sheet 24 = .ok (.iload_n 3, 1) := by decide +kernel
theorem dX12_sheet_25 : decode cX12_sheet 25 = .ok (.bipush 40, 2) := by decide +kernel
theorem dX12_sheet_27 : decode cX12_sheet 27 = .ok (.if_icmp .le 6, 3) := by decide +kernel
theorem dX12_sheet_30 : decode cX12_sheet 30 = .ok (.ldc 100, 2) := by decide +kernel
theorem dX12_sheet_32 : decode cX12_sheet 32 = .ok (.ireturn, 1) := by decide +kernel
theorem dX12_sheet_33 : decode cX12_sheet 33 = .ok (.aload_n 0, 1) := by decide +kernel
theorem dX12_sheet_34 : decode cX12_sheet 34 = .ok (.iconst 0, 1) := by decide +kernel
theorem dX12_sheet_35 : decode cX12_sheet 35 = .ok (.putfield 7, 3) := by decide +kernel
theorem dX12_sheet_38 : decode cX12_sheet 38 = .ok (.iload_n 3, 1) := by decide +kernel
theorem dX12_sheet_39 : decode cX12_sheet 39 = .ok (.ifCond .ge 9, 3) := by decide +kernel
theorem dX12_sheet_42 : decode cX12_sheet 42 = .ok (.aload_n 0, 1) := by decide +kernel
theorem dX12_sheet_43 : decode cX12_sheet 43 = .ok (.iconst 4, 1) := by decide +kernel
theorem dX12_sheet_44 : decode cX12_sheet 44 = .ok (.invokevirtual 101, 3) := by decide +kernel
theorem dX12_sheet_47 : decode cX12_sheet 47 = .ok (.ireturn, 1) := by decide +kernel
theorem dX12_sheet_48 : decode cX12_sheet 48 = .ok (.aload_n 0, 1) := by decide +kernel
theorem dX12_sheet_49 : decode cX12_sheet 49 = .ok (.getfield 17, 3) := by decide +kernel
theorem dX12_sheet_52 : decode cX12_sheet 52 = .ok (.iload_n 1, 1) := by decide +kernel
theorem dX12_sheet_53 : decode cX12_sheet 53 = .ok (.iload_n 2, 1) := by decide +kernel
theorem dX12_sheet_54 : decode cX12_sheet 54 = .ok (.iastore, 1) := by decide +kernel
theorem dX12_sheet_55 : decode cX12_sheet 55 = .ok (.aload_n 0, 1) := by decide +kernel
theorem dX12_sheet_56 : decode cX12_sheet 56 = .ok (.getfield 21, 3) := by decide +kernel
theorem dX12_sheet_59 : decode cX12_sheet 59 = .ok (.iload_n 1, 1) := by decide +kernel
theorem dX12_sheet_60 : decode cX12_sheet 60 = .ok (.iload_n 3, 1) := by decide +kernel
theorem dX12_sheet_61 : decode cX12_sheet 61 = .ok (.iastore, 1) := by decide +kernel
theorem dX12_sheet_62 : decode cX12_sheet 62 = .ok (.iconst 0, 1) := by decide +kernel
theorem dX12_sheet_63 : decode cX12_sheet 63 = .ok (.istore 4, 2) := by decide +kernel
theorem dX12_sheet_65 : decode cX12_sheet 65 = .ok (.iload 4, 2) := by decide +kernel
theorem dX12_sheet_67 : decode cX12_sheet 67 = .ok (.bipush 40, 2) := by decide +kernel
theorem dX12_sheet_69 : decode cX12_sheet 69 = .ok (.if_icmp .ge 22, 3) := by decide +kernel
theorem dX12_sheet_72 : decode cX12_sheet 72 = .ok (.aload_n 0, 1) := by decide +kernel
theorem dX12_sheet_73 : decode cX12_sheet 73 = .ok (.getfield 24, 3) := by decide +kernel
theorem dX12_sheet_76 : decode cX12_sheet 76 = .ok (.bipush 40, 2) := by decide +kernel
theorem dX12_sheet_78 : decode cX12_sheet 78 = .ok (.iload_n 1, 1) := by decide +kernel
theorem dX12_sheet_79 : decode cX12_sheet 79 = .ok (.imul, 1) := by decide +kernel
theorem dX12_sheet_80 : decode cX12_sheet 80 = .ok (.iload 4, 2) := by decide +kernel
theorem dX12_sheet_82 : decode cX12_sheet 82 = .ok (.iadd, 1) := by decide +kernel
theorem dX12_sheet_83 : decode cX12_sheet 83 = .ok (.iconst 0, 1) := by decide +kernel
theorem dX12_sheet_84 : decode cX12_sheet 84 = .ok (.iastore, 1) := by decide +kernel
theorem dX12_sheet_85 : decode cX12_sheet 85 = .ok (.iinc 4 1, 3) := by decide +kernel
theorem dX12_sheet_88 : decode cX12_sheet 88 = .ok (.goto (-23), 3) := by decide +kernel
theorem dX12_sheet_91 : decode cX12_sheet 91 = .ok (.iload_n 3, 1) := by decide +kernel
theorem dX12_sheet_92 : decode cX12_sheet 92 = .ok (.ireturn, 1) := by decide +kernel
set_option maxRecDepth 20000 in
theorem ggX12_set_X12_isSheet : GoodIn wsX12_set wsX12_isSheet := goodIn_r _ [10, 11, 12, 13, 9, 14] (by decide +kernel) (by decide +kernel)
set_option maxRecDepth 20000 in
theorem gX12_set_X12_isSheet : GoodIn wsX12_set (va_wsS RX12 94 yX12_isSheet wsX12_isSheet) := goodIn_app (goodIn_of _ (by decide +kernel)) ggX12_set_X12_isSheet
set_option maxRecDepth 20000 in
theorem ggX12_set_X12_found : GoodIn wsX12_set wsX12_found := goodIn_r _ [18, 3, 19, 20, 21, 22, 23, 24, 25, 26, 27, 28, 29, 30, 31, 32, 33, 34, 35, 36, 37, 38, 39, 40, 41, 42, 43, 44, 45, 46, 47, 48, 49, 50, 51, 52, 53, 54, 55, 56, 57, 58, 59, 60, 61] (by decide +kernel) (by decide +kernel)
set_option maxRecDepth 20000 in
theorem gX12_set_X12_found : GoodIn wsX12_set (wsV RX12 101 RX12 yX12_found wsX12_found) := goodIn_app (goodIn_of _ (by decide +kernel)) ggX12_set_X12_found
set_option maxRecDepth 20000 in
theorem ggX12_set_X12_in : GoodIn wsX12_set wsX12_in := goodIn_r _ [14] (by decide +kernel) (by decide +kernel)
set_option maxRecDepth 20000 in
theorem gX12_set_X12_in : GoodIn wsX12_set (va_wsS RX12 90 yX12_in wsX12_in) := goodIn_app (goodIn_of _ (by decide +kernel)) ggX12_set_X12_in
theorem dX12_set_0 : decode cX12_set 0 = .ok (.aload_n 0, 1) := by decide +kernel
theorem dX12_set_1 : decode cX12_set 1 = .ok (.iconst 0, 1) := by decide +kernel
theorem dX12_set_2 : decode cX12_set 2 = .ok (.putfield 1, 3) := by decide +kernel
theorem dX12_set_5 : decode cX12_set 5 = .ok (.iload_n 1, 1) := by decide +kernel
theorem dX12_set_6 : decode cX12_set 6 = .ok (.invokestatic 94, 3) := by decide +kernel
theorem dX12_set_9 : decode cX12_set 9 = .ok (.ifCond .ne 6, 3) := by decide +kernel
theorem dX12_set_12 : decode cX12_set 12 = .ok (.ldc 100, 2) := by decide +kernel
theorem dX12_set_14 : decode cX12_set 14 = .ok (.ireturn, 1) := by decide +kernel
theorem dX12_set_15 : decode cX12_set 15 = .ok (.aload_n 0, 1) := by decide +kernel
theorem dX12_set_16 : decode cX12_set 16 = .ok (.iconst 0, 1) := by decide +kernel
theorem dX12_set_17 : decode cX12_set 17 = .ok (.putfield 7, 3) := by decide +kernel
theorem dX12_set_20 : decode cX12_set 20 = .ok (.aload_n 0, 1) := by decide +kernel
theorem dX12_set_21 : decode cX12_set 21 = .ok (.getfield 17, 3) := by decide +kernel
theorem dX12_set_24 : decode cX12_set 24 = .ok (.iload_n 1, 1) := by decide +kernel
theorem dX12_set_25 : decode cX12_set 25 = .ok (.iaload, 1) := by decide +kernel
theorem dX12_set_26 : decode cX12_set 26 = .ok (.ifCond .ge 9, 3) := by decide +kernel
theorem dX12_set_29 : decode cX12_set 29 = .ok (.aload_n 0, 1) := by decide +kernel
theorem dX12_set_30 : decode cX12_set 30 = .ok (.iconst 1, 1) := by decide +kernel
theorem dX12_set_31 : decode cX12_set 31 = .ok (.invokevirtual 101, 3) := by decide +kernel
theorem dX12_set_34 : decode cX12_set 34 = .ok (.ireturn, 1) := by decide +kernel
theorem dX12_set_35 : decode cX12_set 35 = .ok (.iload_n 2, 1) := by decide +kernel
theorem dX12_set_36 : decode cX12_set 36 = .ok (.i2l, 1) := by decide +kernel
theorem dX12_set_37 : decode cX12_set 37 = .ok (.lconst 0, 1) := by decide +kernel
theorem dX12_set_38 : decode cX12_set 38 = .ok (.aload_n 0, 1) := by decide +kernel
theorem dX12_set_39 : decode cX12_set 39 = .ok (.getfield 21, 3) := by decide +kernel
theorem dX12_set_42 : decode cX12_set 42 = .ok (.iload_n 1, 1) := by decide +kernel
theorem dX12_set_43 : decode cX12_set 43 = .ok (.iaload, 1) := by decide +kernel
theorem dX12_set_44 : decode cX12_set 44 = .ok (.iconst 1, 1) := by decide +kernel
theorem dX12_set_45 : decode cX12_set 45 = .ok (.isub, 1) := by decide +kernel
theorem dX12_set_46 : decode cX12_set 46 = .ok (.i2l, 1) := by decide +kernel
theorem dX12_set_47 : decode cX12_set 47 = .ok (.invokestatic 90, 3) := by decide +kernel
theorem dX12_set_50 : decode cX12_set 50 = .ok (.ifCond .ne 9, 3) := by decide +kernel
theorem dX12_set_53 : decode cX12_set 53 = .ok (.aload_n 0, 1) := by decide +kernel
theorem dX12_set_54 : decode cX12_set 54 = .ok (.iconst 2, 1) := by decide +kernel
theorem dX12_set_55 : decode cX12_set 55 = .ok (.invokevirtual 101, 3) := by decide +kernel
theorem dX12_set_58 : decode cX12_set 58 = .ok (.ireturn, 1) := by decide +kernel
theorem dX12_set_59 : decode cX12_set 59 = .ok (.aload_n 0, 1) := by decide +kernel
theorem dX12_set_60 : decode cX12_set 60 = .ok (.getfield 24, 3) := by decide +kernel
theorem dX12_set_63 : decode cX12_set 63 = .ok (.bipush 40, 2) := by decide +kernel
theorem dX12_set_65 : decode cX12_set 65 = .ok (.iload_n 1, 1) := by decide +kernel
theorem dX12_set_66 : decode cX12_set 66 = .ok (.imul, 1) := by decide +kernel
theorem dX12_set_67 : decode cX12_set 67 = .ok (.iload_n 2, 1) := by decide +kernel
theorem dX12_set_68 : decode cX12_set 68 = .ok (.iadd, 1) := by decide +kernel
theorem dX12_set_69 : decode cX12_set 69 = .ok (.aload_n 0, 1) := by decide +kernel
theorem dX12_set_70 : decode cX12_set 70 = .ok (.getfield 17, 3) := by decide +kernel
theorem dX12_set_73 : decode cX12_set 73 = .ok (.iload_n 1, 1) := by decide +kernel
theorem dX12_set_74 : decode cX12_set 74 = .ok (.iaload, 1) := by decide +kernel
theorem dX12_set_75 : decode cX12_set 75 = .ok (.ifCond .ne 8, 3) := by decide +kernel
theorem dX12_set_78 : decode cX12_set 78 = .ok (.iload_n 3, 1) := by decide +kernel
theorem dX12_set_79 : decode cX12_set 79 = .ok (.i2b, 1) := by decide +kernel
theorem dX12_set_80 : decode cX12_set 80 = .ok (.goto 19, 3) := by decide +kernel
theorem dX12_set_83 : decode cX12_set 83 = .ok (.aload_n 0, 1) := by decide +kernel
theorem dX12_set_84 : decode cX12_set 84 = .ok (.getfield 17, 3) := by decide +kernel
theorem dX12_set_87 : decode cX12_set 87 = .ok (.iload_n 1, 1) := by decide +kernel
theorem dX12_set_88 : decode cX12_set 88 = .ok (.iaload, 1) := by decide +kernel
theorem dX12_set_89 : decode cX12_set 89 = .ok (.iconst 1, 1) := by decide +kernel
theorem dX12_set_90 : decode cX12_set 90 = .ok (.if_icmp .ne 8, 3) := by decide +kernel
theorem dX12_set_93 : decode cX12_set 93 = .ok (.iload_n 3, 1) := by decide +kernel
theorem dX12_set_94 : decode cX12_set 94 = .ok (.i2s, 1) := by decide +kernel
theorem dX12_set_95 : decode cX12_set 95 = .ok (.goto 4, 3) := by decide +kernel
theorem dX12_set_98 : decode cX12_set 98 = .ok (.iload_n 3, 1) := by decide +kernel
theorem dX12_set_99 : decode cX12_set 99 = .ok (.iastore, 1) := by decide +kernel
theorem dX12_set_100 : decode cX12_set 100 = .ok (.aload_n 0, 1) := by decide +kernel
theorem dX12_set_101 : decode cX12_set 101 = .ok (.getfield 24, 3) := by decide +kernel
theorem dX12_set_104 : decode cX12_set 104 = .ok (.bipush 40, 2) := by decide +kernel
theorem dX12_set_106 : decode cX12_set 106 = .ok (.iload_n 1, 1) := by decide +kernel
theorem dX12_set_107 : decode cX12_set 107 = .ok (.imul, 1) := by decide +kernel
theorem dX12_set_108 : decode cX12_set 108 = .ok (.iload_n 2, 1) := by decide +kernel
theorem dX12_set_109 : decode cX12_set 109 = .ok (.iadd, 1) := by decide +kernel
theorem dX12_set_110 : decode cX12_set 110 = .ok (.iaload, 1) := by decide +kernel
theorem dX12_set_111 : decode cX12_set 111 = .ok (.ireturn, 1) := by decide +kernel
set_option maxRecDepth 20000 in
theorem ggX12_copy_X12_isSheet : GoodIn wsX12_copy wsX12_isSheet := goodIn_r _ [10, 11, 12, 13, 9, 14] (by decide +kernel) (by decide +kernel)
set_option maxRecDepth 20000 in
theorem gX12_copy_X12_isSheet : GoodIn wsX12_copy (va_wsS RX12 94 yX12_isSheet wsX12_isSheet) := goodIn_app (goodIn_of _ (by decide +kernel)) ggX12_copy_X12_isSheet
set_option maxRecDepth 20000 in
theorem ggX12_copy_X12_found : GoodIn wsX12_copy wsX12_found := goodIn_r _ [18, 3, 19, 20, 21, 22, 23, 24, 25, 26, 27, 28, 29, 30, 31, 32, 33, 34, 35, 36, 37, 38, 39, 40, 41, 42, 43, 44, 45, 46, 47, 48, 49, 50, 51, 52, 53, 54, 55, 56, 57, 58, 59, 60, 61] (by decide +kernel) (by decide +kernel)
set_option maxRecDepth 20000 in
theorem gX12_copy_X12_found : GoodIn wsX12_copy (wsV RX12 101 RX12 yX12_found wsX12_found) := goodIn_app (goodIn_of _ (by decide +kernel)) ggX12_copy_X12_found
theorem dX12_copy_0 : decode cX12_copy 0 = .ok (.aload_n 0, 1) := by decide +kernel
theorem dX12_copy_1 : decode cX12_copy 1 = .ok (.iconst 0, 1) := by decide +kernel
theorem dX12_copy_2 : decode cX12_copy 2 = .ok (.putfield 1, 3) := by decide +kernel
theorem dX12_copy_5 : decode cX12_copy 5 = .ok (.iload_n 1, 1) := by decide +kernel
theorem dX12_copy_6 : decode cX12_copy 6 = .ok (.invokestatic 94, 3) := by decide +kernel
theorem dX12_copy_9 : decode cX12_copy 9 = .ok (.ifCond .eq 10, 3) := by decide +kernel
theorem dX12_copy_12 : decode cX12_copy 12 = .ok (.iload_n 3, 1) := by decide +kernel
theorem dX12_copy_13 : decode cX12_copy 13 = .ok (.invokestatic 94, 3) := by decide +kernel
theorem dX12_copy_16 : decode cX12_copy 16 = .ok (.ifCond .ne 6, 3) := by decide +kernel
theorem dX12_copy_19 : decode cX12_copy 19 = .ok (.ldc 100, 2) := by decide +kernel
theorem dX12_copy_21 : decode cX12_copy 21 = .ok (.ireturn, 1) := by decide +kernel
theorem dX12_copy_22 : decode cX12_copy 22 = .ok (.aload_n 0, 1) := by decide +kernel
theorem dX12_copy_23 : decode cX12_copy 23 = .ok (.iconst 0, 1) := by decide +kernel
theorem dX12_copy_24 : decode cX12_copy 24 = .ok (.putfield 7, 3) := by decide +kernel
theorem dX12_copy_27 : decode cX12_copy 27 = .ok (.aload_n 0, 1) := by decide +kernel
theorem dX12_copy_28 : decode cX12_copy 28 = .ok (.getfield 17, 3) := by decide +kernel
theorem dX12_copy_31 : decode cX12_copy 31 = .ok (.iload_n 1, 1) := by decide +kernel
theorem dX12_copy_32 : decode cX12_copy 32 = .ok (.iaload, 1) := by decide +kernel
theorem dX12_copy_33 : decode cX12_copy 33 = .ok (.ifCond .lt 12, 3) := by decide +kernel
theorem dX12_copy_36 : decode cX12_copy 36 = .ok (.aload_n 0, 1) := by decide +kernel
theorem dX12_copy_37 : decode cX12_copy 37 = .ok (.getfield 17, 3) := by decide +kernel
theorem dX12_copy_40 : decode cX12_copy 40 = .ok (.iload_n 3, 1) := by decide +kernel
theorem dX12_copy_41 : decode cX12_copy 41 = .ok (.iaload, 1) := by decide +kernel
theorem dX12_copy_42 : decode cX12_copy 42 = .ok (.ifCond .ge 9, 3) := by decide +kernel
theorem dX12_copy_45 : decode cX12_copy 45 = .ok (.aload_n 0, 1) := by decide +kernel
theorem dX12_copy_46 : decode cX12_copy 46 = .ok (.iconst 1, 1) := by decide +kernel
theorem dX12_copy_47 : decode cX12_copy 47 = .ok (.invokevirtual 101, 3) := by decide +kernel
theorem dX12_copy_50 : decode cX12_copy 50 = .ok (.ireturn, 1) := by decide +kernel
theorem dX12_copy_51 : decode cX12_copy 51 = .ok (.aload_n 0, 1) := by decide +kernel
theorem dX12_copy_52 : decode cX12_copy 52 = .ok (.getfield 17, 3) := by decide +kernel
theorem dX12_copy_55 : decode cX12_copy 55 = .ok (.iload_n 1, 1) := by decide +kernel
theorem dX12_copy_56 : decode cX12_copy 56 = .ok (.iaload, 1) := by decide +kernel
theorem dX12_copy_57 : decode cX12_copy 57 = .ok (.aload_n 0, 1) := by decide +kernel
theorem dX12_copy_58 : decode cX12_copy 58 = .ok (.getfield 17, 3) := by decide +kernel
theorem dX12_copy_61 : decode cX12_copy 61 = .ok (.iload_n 3, 1) := by decide +kernel
theorem dX12_copy_62 : decode cX12_copy 62 = .ok (.iaload, 1) := by decide +kernel
theorem dX12_copy_63 : decode cX12_copy 63 = .ok (.if_icmp .eq 9, 3) := by decide +kernel
theorem dX12_copy_66 : decode cX12_copy 66 = .ok (.aload_n 0, 1) := by decide +kernel
theorem dX12_copy_67 : decode cX12_copy 67 = .ok (.iconst 5, 1) := by decide +kernel
theorem dX12_copy_68 : decode cX12_copy 68 = .ok (.invokevirtual 101, 3) := by decide +kernel
theorem dX12_copy_71 : decode cX12_copy 71 = .ok (.ireturn, 1) := by decide +kernel
theorem dX12_copy_72 : decode cX12_copy 72 = .ok (.iload_n 2, 1) := by decide +kernel
theorem dX12_copy_73 : decode cX12_copy 73 = .ok (.ifCond .lt 48, 3) := by decide +kernel
theorem dX12_copy_76 : decode cX12_copy 76 = .ok (.iload 4, 2) := by decide +kernel
theorem dX12_copy_78 : decode cX12_copy 78 = .ok (.ifCond .lt 43, 3) := by decide +kernel
theorem dX12_copy_81 : decode cX12_copy 81 = .ok (.iload 5, 2) := by decide +kernel
theorem dX12_copy_83 : decode cX12_copy 83 = .ok (.ifCond .lt 38, 3) := by decide +kernel
theorem dX12_copy_86 : decode cX12_copy 86 = .ok (.iload_n 2, 1) := by decide +kernel
theorem dX12_copy_87 : decode cX12_copy 87 = .ok (.i2l, 1) := by decide +kernel
theorem dX12_copy_88 : decode cX12_copy 88 = .ok (.iload 5, 2) := by decide +kernel
theorem dX12_copy_90 : decode cX12_copy 90 = .ok (.i2l, 1) := by decide +kernel
theorem dX12_copy_91 : decode cX12_copy 91 = .ok (.ladd, 1) := by decide +kernel
theorem dX12_copy_92 : decode cX12_copy 92 = .ok (.aload_n 0, 1) := by decide +kernel
theorem dX12_copy_93 : decode cX12_copy 93 = .ok (.getfield 21, 3) := by decide +kernel
theorem dX12_copy_96 : decode cX12_copy 96 = .ok (.iload_n 1, 1) := by decide +kernel
theorem dX12_copy_97 : decode cX12_copy 97 = .ok (.iaload, 1) := by decide +kernel
theorem dX12_copy_98 : decode cX12_copy 98 = .ok (.i2l, 1) := by decide +kernel
theorem dX12_copy_99 : decode cX12_copy 99 = .ok (.lcmp, 1) := by decide +kernel
theorem dX12_copy_100 : decode cX12_copy 100 = .ok (.ifCond .gt 21, 3) := by decide +kernel
theorem dX12_copy_103 : decode cX12_copy 103 = .ok (.iload 4, 2) := by decide +kernel
theorem dX12_copy_105 : decode cX12_copy 105 = .ok (.i2l, 1) := by decide +kernel
theorem dX12_copy_106 : decode cX12_copy 106 = .ok (.iload 5, 2) := by decide +kernel
theorem dX12_copy_108 : decode cX12_copy 108 = .ok (.i2l, 1) := by decide +kernel
theorem dX12_copy_109 : decode cX12_copy 109 = .ok (.ladd, 1) := by decide +kernel
theorem dX12_copy_110 : decode cX12_copy 110 = .ok (.aload_n 0, 1) := by decide +kernel
theorem dX12_copy_111 : decode cX12_copy 111 = .ok (.getfield 21, 3) := by decide +kernel
theorem dX12_copy_114 : decode cX12_copy 114 = .ok (.iload_n 3, 1) := by decide +kernel
theorem dX12_copy_115 : decode cX12_copy 115 = .ok (.iaload, 1) := by decide +kernel
theorem dX12_copy_116 : decode cX12_copy 116 = .ok (.i2l, 1) := by decide +kernel
theorem dX12_copy_117 : decode cX12_copy 117 = .ok (.lcmp, 1) := by decide +kernel
theorem dX12_copy_118 : decode cX12_copy 118 = .ok (.ifCond .le 9, 3) := by decide +kernel
theorem dX12_copy_121 : decode cX12_copy 121 = .ok (.aload_n 0, 1) := by decide +kernel
theorem dX12_copy_122 : decode cX12_copy 122 = .ok (.iconst 2, 1) := by decide +kernel
theorem dX12_copy_123 : decode cX12_copy 123 = .ok (.invokevirtual 101, 3) := by decide +kernel
theorem dX12_copy_126 : decode cX12_copy 126 = .ok (.ireturn, 1) := by decide +kernel
theorem dX12_copy_127 : decode cX12_copy 127 = .ok (.iload_n 2, 1) := by decide +kernel
theorem dX12_copy_128 : decode cX12_copy 128 = .ok (.iload 4, 2) := by decide +kernel
theorem dX12_copy_130 : decode cX12_copy 130 = .ok (.if_icmp .lt 7, 3) := by decide +kernel
theorem dX12_copy_133 : decode cX12_copy 133 = .ok (.iconst 1, 1) := by decide +kernel
theorem dX12_copy_134 : decode cX12_copy 134 = .ok (.goto 4, 3) := by decide +kernel
theorem dX12_copy_137 : decode cX12_copy 137 = .ok (.iconst 0, 1) := by decide +kernel
theorem dX12_copy_138 : decode cX12_copy 138 = .ok (.istore 6, 2) := by decide +kernel
theorem dX12_copy_140 : decode cX12_copy 140 = .ok (.iconst 0, 1) := by decide +kernel
theorem dX12_copy_141 : decode cX12_copy 141 = .ok (.istore 7, 2) := by decide +kernel
theorem dX12_copy_143 : decode cX12_copy 143 = .ok (.iload 7, 2) := by decide +kernel
theorem dX12_copy_145 : decode cX12_copy 145 = .ok (.iload 5, 2) := by decide +kernel
theorem dX12_copy_147 : decode cX12_copy 147 = .ok (.if_icmp .ge 57, 3) := by decide +kernel
theorem dX12_copy_150 : decode cX12_copy 150 = .ok (.iload 6, 2) := by decide +kernel
theorem dX12_copy_152 : decode cX12_copy 152 = .ok (.ifCond .eq 8, 3) := by decide +kernel
theorem dX12_copy_155 : decode cX12_copy 155 = .ok (.iload 7, 2) := by decide +kernel
theorem dX12_copy_157 : decode cX12_copy 157 = .ok (.goto 10, 3) := by decide +kernel
theorem dX12_copy_160 : decode cX12_copy 160 = .ok (.iload 5, 2) := by decide +kernel
theorem dX12_copy_162 : decode cX12_copy 162 = .ok (.iconst 1, 1) := by decide +kernel
theorem dX12_copy_163 : decode cX12_copy 163 = .ok (.isub, 1) := by decide +kernel
theorem dX12_copy_164 : decode cX12_copy 164 = .ok (.iload 7, 2) := by decide +kernel
theorem dX12_copy_166 : decode cX12_copy 166 = .ok (.isub, 1) := by decide +kernel
theorem dX12_copy_167 : decode cX12_copy 167 = .ok (.istore 8, 2) := by decide +kernel
theorem dX12_copy_169 : decode cX12_copy 169 = .ok (.aload_n 0, 1) := by decide +kernel
theorem dX12_copy_170 : decode cX12_copy 170 = .ok (.getfield 24, 3) := by decide +kernel
theorem dX12_copy_173 : decode cX12_copy 173 = .ok (.bipush 40, 2) := by decide +kernel
theorem dX12_copy_175 : decode cX12_copy 175 = .ok (.iload_n 3, 1) := by decide +kernel
theorem dX12_copy_176 : decode cX12_copy 176 = .ok (.imul, 1) := by decide +kernel
theorem dX12_copy_177 : decode cX12_copy 177 = .ok (.iload 4, 2) := by decide +kernel
theorem dX12_copy_179 : decode cX12_copy 179 = .ok (.iadd, 1) := by decide +kernel
theorem dX12_copy_180 : decode cX12_copy 180 = .ok (.iload 8, 2) := by decide +kernel
theorem dX12_copy_182 : decode cX12_copy 182 = .ok (.iadd, 1) := by decide +kernel
theorem dX12_copy_183 : decode cX12_copy 183 = .ok (.aload_n 0, 1) := by decide +kernel
theorem dX12_copy_184 : decode cX12_copy 184 = .ok (.getfield 24, 3) := by decide +kernel
theorem dX12_copy_187 : decode cX12_copy 187 = .ok (.bipush 40, 2) := by decide +kernel
theorem dX12_copy_189 : decode cX12_copy 189 = .ok (.iload_n 1, 1) := by decide +kernel
theorem dX12_copy_190 : decode cX12_copy 190 = .ok (.imul, 1) := by decide +kernel
theorem dX12_copy_191 : decode cX12_copy 191 = .ok (.iload_n 2, 1) := by decide +kernel
theorem dX12_copy_192 : decode cX12_copy 192 = .ok (.iadd, 1) := by decide +kernel
theorem dX12_copy_193 : decode cX12_copy 193 = .ok (.iload 8, 2) := by decide +kernel
theorem dX12_copy_195 : decode cX12_copy 195 = .ok (.iadd, 1) := by decide +kernel
theorem dX12_copy_196 : decode cX12_copy 196 = .ok (.iaload, 1) := by decide +kernel
theorem dX12_copy_197 : decode cX12_copy 197 = .ok (.iastore, 1) := by decide +kernel
theorem dX12_copy_198 : decode cX12_copy 198 = .ok (.iinc 7 1, 3) := by decide +kernel
theorem dX12_copy_201 : decode cX12_copy 201 = .ok (.goto (-58), 3) := by decide +kernel
theorem dX12_copy_204 : decode cX12_copy 204 = .ok (.iload 5, 2) := by decide +kernel
theorem dX12_copy_206 : decode cX12_copy 206 = .ok (.ireturn, 1) := by decide +kernel
set_option maxRecDepth 20000 in
theorem ggX12_drop_X12_isSheet : GoodIn wsX12_drop wsX12_isSheet := goodIn_r _ [9, 10, 11, 12, 8, 13] (by decide +kernel) (by decide +kernel)
set_option maxRecDepth 20000 in
theorem gX12_drop_X12_isSheet : GoodIn wsX12_drop (va_wsS RX12 94 yX12_isSheet wsX12_isSheet) := goodIn_app (goodIn_of _ (by decide +kernel)) ggX12_drop_X12_isSheet
set_option maxRecDepth 20000 in
theorem ggX12_drop_X12_found : GoodIn wsX12_drop wsX12_found := goodIn_r _ [17, 3, 18, 19, 20, 21, 22, 23, 24, 25, 26, 27, 28, 29, 30, 31, 32, 33, 34, 35, 36, 37, 38, 39, 40, 41, 42, 43, 44, 45, 46, 47, 48, 49, 50, 51, 52, 53, 54, 55, 56, 57, 58, 59, 60] (by decide +kernel) (by decide +kernel)
set_option maxRecDepth 20000 in
theorem gX12_drop_X12_found : GoodIn wsX12_drop (wsV RX12 101 RX12 yX12_found wsX12_found) := goodIn_app (goodIn_of _ (by decide +kernel)) ggX12_drop_X12_found
theorem dX12_drop_0 : decode cX12_drop 0 = .ok (.aload_n 0, 1) := by decide +kernel
theorem dX12_drop_1 : decode cX12_drop 1 = .ok (.iconst 0, 1) := by decide +kernel
theorem dX12_drop_2 : decode cX12_drop 2 = .ok (.putfield 1, 3) := by decide +kernel
theorem dX12_drop_5 : decode cX12_drop 5 = .ok (.iload_n 1, 1) := by decide +kernel
theorem dX12_drop_6 : decode cX12_drop 6 = .ok (.invokestatic 94, 3) := by decide +kernel
theorem dX12_drop_9 : decode cX12_drop 9 = .ok (.ifCond .ne 6, 3) := by decide +kernel
theorem dX12_drop_12 : decode cX12_drop 12 = .ok (.ldc 100, 2) := by decide +kernel
theorem dX12_drop_14 : decode cX12_drop 14 = .ok (.ireturn, 1) := by decide +kernel
theorem dX12_drop_15 : decode cX12_drop 15 = .ok (.aload_n 0, 1) := by decide +kernel
theorem dX12_drop_16 : decode cX12_drop 16 = .ok (.iconst 0, 1) := by decide +kernel
theorem dX12_drop_17 : decode cX12_drop 17 = .ok (.putfield 7, 3) := by decide +kernel
theorem dX12_drop_20 : decode cX12_drop 20 = .ok (.aload_n 0, 1) := by decide +kernel
theorem dX12_drop_21 : decode cX12_drop 21 = .ok (.getfield 17, 3) := by decide +kernel
theorem dX12_drop_24 : decode cX12_drop 24 = .ok (.iload_n 1, 1) := by decide +kernel
theorem dX12_drop_25 : decode cX12_drop 25 = .ok (.iaload, 1) := by decide +kernel
theorem dX12_drop_26 : decode cX12_drop 26 = .ok (.ifCond .ge 9, 3) := by decide +kernel
theorem dX12_drop_29 : decode cX12_drop 29 = .ok (.aload_n 0, 1) := by decide +kernel
theorem dX12_drop_30 : decode cX12_drop 30 = .ok (.iconst 1, 1) := by decide +kernel
theorem dX12_drop_31 : decode cX12_drop 31 = .ok (.invokevirtual 101, 3) := by decide +kernel
theorem dX12_drop_34 : decode cX12_drop 34 = .ok (.ireturn, 1) := by decide +kernel
theorem dX12_drop_35 : decode cX12_drop 35 = .ok (.aload_n 0, 1) := by decide +kernel
theorem dX12_drop_36 : decode cX12_drop 36 = .ok (.getfield 17, 3) := by decide +kernel
theorem dX12_drop_39 : decode cX12_drop 39 = .ok (.iload_n 1, 1) := by decide +kernel
theorem dX12_drop_40 : decode cX12_drop 40 = .ok (.iconst (-1), 1) := by decide +kernel
theorem dX12_drop_41 : decode cX12_drop 41 = .ok (.iastore, 1) := by decide +kernel
theorem dX12_drop_42 : decode cX12_drop 42 = .ok (.aload_n 0, 1) := by decide +kernel
theorem dX12_drop_43 : decode cX12_drop 43 = .ok (.getfield 21, 3) := by decide +kernel
theorem dX12_drop_46 : decode cX12_drop 46 = .ok (.iload_n 1, 1) := by decide +kernel
theorem dX12_drop_47 : decode cX12_drop 47 = .ok (.iaload, 1) := by decide +kernel
theorem dX12_drop_48 : decode cX12_drop 48 = .ok (.ireturn, 1) := by decide +kernel
set_option maxRecDepth 20000 in
theorem ggX12_isStroke_X12_in : GoodIn wsX12_isStroke wsX12_in := goodIn_r _ [5] (by decide +kernel) (by decide +kernel)
set_option maxRecDepth 20000 in
theorem gX12_isStroke_X12_in : GoodIn wsX12_isStroke (va_wsS RX12 90 yX12_in wsX12_in) := goodIn_app (goodIn_of _ (by decide +kernel)) ggX12_isStroke_X12_in
theorem dX12_isStroke_0 : decode cX12_isStroke 0 = .ok (.iload_n 1, 1) := by decide +kernel
theorem dX12_isStroke_1 : decode cX12_isStroke 1 = .ok (.i2l, 1) := by decide +kernel
theorem dX12_isStroke_2 : decode cX12_isStroke 2 = .ok (.lconst 0, 1) := by decide +kernel
theorem dX12_isStroke_3 : decode cX12_isStroke 3 = .ok (.aload_n 0, 1) := by decide +kernel
theorem dX12_isStroke_4 : decode cX12_isStroke 4 = .ok (.getfield 105, 3) := by decide +kernel
theorem dX12_isStroke_7 : decode cX12_isStroke 7 = .ok (.iconst 1, 1) := by decide +kernel
theorem dX12_isStroke_8 : decode cX12_isStroke 8 = .ok (.isub, 1) := by decide +kernel
theorem dX12_isStroke_9 : decode cX12_isStroke 9 = .ok (.i2l, 1) := by decide +kernel
theorem dX12_isStroke_10 : decode cX12_isStroke 10 = .ok (.invokestatic 90, 3) := by decide +kernel
theorem dX12_isStroke_13 : decode cX12_isStroke 13 = .ok (.ireturn, 1) := by decide +kernel
set_option maxRecDepth 20000 in
theorem ggX12_stroke_X12_isSheet : GoodIn wsX12_stroke wsX12_isSheet := goodIn_r _ [19, 20, 21, 22, 18, 23] (by decide +kernel) (by decide +kernel)
set_option maxRecDepth 20000 in
theorem gX12_stroke_X12_isSheet : GoodIn wsX12_stroke (va_wsS RX12 94 yX12_isSheet wsX12_isSheet) := goodIn_app (goodIn_of _ (by decide +kernel)) ggX12_stroke_X12_isSheet
set_option maxRecDepth 20000 in
theorem ggX12_stroke_X12_in : GoodIn wsX12_stroke wsX12_in := goodIn_r _ [23] (by decide +kernel) (by decide +kernel)
set_option maxRecDepth 20000 in
theorem gX12_stroke_X12_in : GoodIn wsX12_stroke (va_wsS RX12 90 yX12_in wsX12_in) := goodIn_app (goodIn_of _ (by decide +kernel)) ggX12_stroke_X12_in
set_option maxRecDepth 20000 in
theorem ggX12_stroke_X12_found : GoodIn wsX12_stroke wsX12_found := goodIn_r _ [27, 10, 28, 29, 30, 31, 32, 33, 34, 35, 36, 37, 38, 39, 40, 41, 42, 43, 44, 45, 46, 47, 48, 49, 50, 51, 52, 53, 54, 55, 56, 57, 58, 59, 60, 61, 62, 63, 64, 65, 66, 67, 68, 69, 70] (by decide +kernel) (by decide +kernel)
set_option maxRecDepth 20000 in
theorem gX12_stroke_X12_found : GoodIn wsX12_stroke (wsV RX12 101 RX12 yX12_found wsX12_found) := goodIn_app (goodIn_of _ (by decide +kernel)) ggX12_stroke_X12_found
theorem dX12_stroke_0 : decode cX12_stroke 0 = .ok (.aload_n 0, 1) := by decide +kernel
theorem dX12_stroke_1 : decode cX12_stroke 1 = .ok (.iconst 0, 1) := by decide +kernel
theorem dX12_stroke_2 : decode cX12_stroke 2 = .ok (.putfield 1, 3) := by decide +kernel
theorem dX12_stroke_5 : decode cX12_stroke 5 = .ok (.iload_n 1, 1) := by decide +kernel
theorem dX12_stroke_6 : decode cX12_stroke 6 = .ok (.invokestatic 94, 3) := by decide +kernel
theorem dX12_stroke_9 : decode cX12_stroke 9 = .ok (.ifCond .eq 15, 3) := by decide +kernel
theorem dX12_stroke_12 : decode cX12_stroke 12 = .ok (.iload_n 3, 1) := by decide +kernel
theorem dX12_stroke_13 : decode cX12_stroke 13 = .ok (.i2l, 1) := by decide +kernel
theorem dX12_stroke_14 : decode cX12_stroke 14 = .ok (.lconst 1, 1) := by decide +kernel
theorem dX12_stroke_15 : decode cX12_stroke 15 = .ok (.ldc2_w 108, 3) := by decide +kernel
theorem dX12_stroke_18 : decode cX12_stroke 18 = .ok (.invokestatic 90, 3) := by decide +kernel
theorem dX12_stroke_21 : decode cX12_stroke 21 = .ok (.ifCond .ne 6, 3) := by decide +kernel
theorem dX12_stroke_24 : decode cX12_stroke 24 = .ok (.ldc 100, 2) := by decide +kernel
theorem dX12_stroke_26 : decode cX12_stroke 26 = .ok (.ireturn, 1) := by decide +kernel
theorem dX12_stroke_27 : decode cX12_stroke 27 = .ok (.aload_n 0, 1) := by decide +kernel
theorem dX12_stroke_28 : decode cX12_stroke 28 = .ok (.getfield 105, 3) := by decide +kernel
theorem dX12_stroke_31 : decode cX12_stroke 31 = .ok (.bipush 8, 2) := by decide +kernel
theorem dX12_stroke_33 : decode cX12_stroke 33 = .ok (.if_icmp .ne 6, 3) := by decide +kernel
theorem dX12_stroke_36 : decode cX12_stroke 36 = .ok (.ldc 110, 2) := by decide +kernel
theorem dX12_stroke_38 : decode cX12_stroke 38 = .ok (.ireturn, 1) := by decide +kernel
theorem dX12_stroke_39 : decode cX12_stroke 39 = .ok (.aload_n 0, 1) := by decide +kernel
theorem dX12_stroke_40 : decode cX12_stroke 40 = .ok (.getfield 17, 3) := by decide +kernel
theorem dX12_stroke_43 : decode cX12_stroke 43 = .ok (.iload_n 1, 1) := by decide +kernel
theorem dX12_stroke_44 : decode cX12_stroke 44 = .ok (.iaload, 1) := by decide +kernel
theorem dX12_stroke_45 : decode cX12_stroke 45 = .ok (.ifCond .ge 9, 3) := by decide +kernel
theorem dX12_stroke_48 : decode cX12_stroke 48 = .ok (.aload_n 0, 1) := by decide +kernel
theorem dX12_stroke_49 : decode cX12_stroke 49 = .ok (.iconst 1, 1) := by decide +kernel
theorem dX12_stroke_50 : decode cX12_stroke 50 = .ok (.invokevirtual 101, 3) := by decide +kernel
theorem dX12_stroke_53 : decode cX12_stroke 53 = .ok (.ireturn, 1) := by decide +kernel
theorem dX12_stroke_54 : decode cX12_stroke 54 = .ok (.iload_n 2, 1) := by decide +kernel
theorem dX12_stroke_55 : decode cX12_stroke 55 = .ok (.ifCond .lt 21, 3) := by decide +kernel
theorem dX12_stroke_58 : decode cX12_stroke 58 = .ok (.iload_n 2, 1) := by decide +kernel
theorem dX12_stroke_59 : decode cX12_stroke 59 = .ok (.i2l, 1) := by decide +kernel
theorem dX12_stroke_60 : decode cX12_stroke 60 = .ok (.iconst 2, 1) := by decide +kernel
theorem dX12_stroke_61 : decode cX12_stroke 61 = .ok (.iload_n 3, 1) := by decide +kernel
theorem dX12_stroke_62 : decode cX12_stroke 62 = .ok (.imul, 1) := by decide +kernel
theorem dX12_stroke_63 : decode cX12_stroke 63 = .ok (.i2l, 1) := by decide +kernel
theorem dX12_stroke_64 : decode cX12_stroke 64 = .ok (.ladd, 1) := by decide +kernel
theorem dX12_stroke_65 : decode cX12_stroke 65 = .ok (.aload_n 0, 1) := by decide +kernel
theorem dX12_stroke_66 : decode cX12_stroke 66 = .ok (.getfield 21, 3) := by decide +kernel
theorem dX12_stroke_69 : decode cX12_stroke 69 = .ok (.iload_n 1, 1) := by decide +kernel
theorem dX12_stroke_70 : decode cX12_stroke 70 = .ok (.iaload, 1) := by decide +kernel
theorem dX12_stroke_71 : decode cX12_stroke 71 = .ok (.i2l, 1) := by decide +kernel
theorem dX12_stroke_72 : decode cX12_stroke 72 = .ok (.lcmp, 1) := by decide +kernel
theorem dX12_stroke_73 : decode cX12_stroke 73 = .ok (.ifCond .le 9, 3) := by decide +kernel
theorem dX12_stroke_76 : decode cX12_stroke 76 = .ok (.aload_n 0, 1) := by decide +kernel
theorem dX12_stroke_77 : decode cX12_stroke 77 = .ok (.iconst 2, 1) := by decide +kernel
theorem dX12_stroke_78 : decode cX12_stroke 78 = .ok (.invokevirtual 101, 3) := by decide +kernel
theorem dX12_stroke_81 : decode cX12_stroke 81 = .ok (.ireturn, 1) := by decide +kernel
theorem dX12_stroke_82 : decode cX12_stroke 82 = .ok (.iconst 0, 1) := by decide +kernel
theorem dX12_stroke_83 : decode cX12_stroke 83 = .ok (.istore 4, 2) := by decide +kernel
theorem dX12_stroke_85 : decode cX12_stroke 85 = .ok (.iload 4, 2) := by decide +kernel
theorem dX12_stroke_87 : decode cX12_stroke 87 = .ok (.iconst 2, 1) := by decide +kernel
theorem dX12_stroke_88 : decode cX12_stroke 88 = .ok (.iload_n 3, 1) := by decide +kernel
theorem dX12_stroke_89 : decode cX12_stroke 89 = .ok (.imul, 1) := by decide +kernel
theorem dX12_stroke_90 : decode cX12_stroke 90 = .ok (.if_icmp .ge 37, 3) := by decide +kernel
theorem dX12_stroke_93 : decode cX12_stroke 93 = .ok (.aload_n 0, 1) := by decide +kernel
theorem dX12_stroke_94 : decode cX12_stroke 94 = .ok (.getfield 24, 3) := by decide +kernel
theorem dX12_stroke_97 : decode cX12_stroke 97 = .ok (.bipush 40, 2) := by decide +kernel
theorem dX12_stroke_99 : decode cX12_stroke 99 = .ok (.iload_n 1, 1) := by decide +kernel
theorem dX12_stroke_100 : decode cX12_stroke 100 = .ok (.imul, 1) := by decide +kernel
theorem dX12_stroke_101 : decode cX12_stroke 101 = .ok (.iload_n 2, 1) := by decide +kernel
theorem dX12_stroke_102 : decode cX12_stroke 102 = .ok (.iadd, 1) := by decide +kernel
theorem dX12_stroke_103 : decode cX12_stroke 103 = .ok (.iload 4, 2) := by decide +kernel
theorem dX12_stroke_105 : decode cX12_stroke 105 = .ok (.iadd, 1) := by decide +kernel
theorem dX12_stroke_106 : decode cX12_stroke 106 = .ok (.iaload, 1) := by decide +kernel
theorem dX12_stroke_107 : decode cX12_stroke 107 = .ok (.i2l, 1) := by decide +kernel
theorem dX12_stroke_108 : decode cX12_stroke 108 = .ok (.lconst 0, 1) := by decide +kernel
theorem dX12_stroke_109 : decode cX12_stroke 109 = .ok (.ldc2_w 111, 3) := by decide +kernel
theorem dX12_stroke_112 : decode cX12_stroke 112 = .ok (.invokestatic 90, 3) := by decide +kernel
theorem dX12_stroke_115 : decode cX12_stroke 115 = .ok (.ifCond .ne 6, 3) := by decide +kernel
theorem dX12_stroke_118 : decode cX12_stroke 118 = .ok (.ldc 100, 2) := by decide +kernel
theorem dX12_stroke_120 : decode cX12_stroke 120 = .ok (.ireturn, 1) := by decide +kernel
theorem dX12_stroke_121 : decode cX12_stroke 121 = .ok (.iinc 4 1, 3) := by decide +kernel
theorem dX12_stroke_124 : decode cX12_stroke 124 = .ok (.goto (-39), 3) := by decide +kernel
theorem dX12_stroke_127 : decode cX12_stroke 127 = .ok (.aload_n 0, 1) := by decide +kernel
theorem dX12_stroke_128 : decode cX12_stroke 128 = .ok (.iconst 0, 1) := by decide +kernel
theorem dX12_stroke_129 : decode cX12_stroke 129 = .ok (.putfield 7, 3) := by decide +kernel
theorem dX12_stroke_132 : decode cX12_stroke 132 = .ok (.iconst 0, 1) := by decide +kernel
theorem dX12_stroke_133 : decode cX12_stroke 133 = .ok (.istore 4, 2) := by decide +kernel
theorem dX12_stroke_135 : decode cX12_stroke 135 = .ok (.iload 4, 2) := by decide +kernel
theorem dX12_stroke_137 : decode cX12_stroke 137 = .ok (.iload_n 3, 1) := by decide +kernel
theorem dX12_stroke_138 : decode cX12_stroke 138 = .ok (.if_icmp .ge 73, 3) := by decide +kernel
theorem dX12_stroke_141 : decode cX12_stroke 141 = .ok (.aload_n 0, 1) := by decide +kernel
theorem dX12_stroke_142 : decode cX12_stroke 142 = .ok (.getfield 30, 3) := by decide +kernel
theorem dX12_stroke_145 : decode cX12_stroke 145 = .ok (.bipush 8, 2) := by decide +kernel
theorem dX12_stroke_147 : decode cX12_stroke 147 = .ok (.aload_n 0, 1) := by decide +kernel
theorem dX12_stroke_148 : decode cX12_stroke 148 = .ok (.getfield 105, 3) := by decide +kernel
theorem dX12_stroke_151 : decode cX12_stroke 151 = .ok (.imul, 1) := by decide +kernel
theorem dX12_stroke_152 : decode cX12_stroke 152 = .ok (.iload 4, 2) := by decide +kernel
theorem dX12_stroke_154 : decode cX12_stroke 154 = .ok (.iadd, 1) := by decide +kernel
theorem dX12_stroke_155 : decode cX12_stroke 155 = .ok (.aload_n 0, 1) := by decide +kernel
theorem dX12_stroke_156 : decode cX12_stroke 156 = .ok (.getfield 24, 3) := by decide +kernel
theorem dX12_stroke_159 : decode cX12_stroke 159 = .ok (.bipush 40, 2) := by decide +kernel
theorem dX12_stroke_161 : decode cX12_stroke 161 = .ok (.iload_n 1, 1) := by decide +kernel
theorem dX12_stroke_162 : decode cX12_stroke 162 = .ok (.imul, 1) := by decide +kernel
theorem dX12_stroke_163 : decode cX12_stroke 163 = .ok (.iload_n 2, 1) := by decide +kernel
theorem dX12_stroke_164 : decode cX12_stroke 164 = .ok (.iadd, 1) := by decide +kernel
theorem dX12_stroke_165 : decode cX12_stroke 165 = .ok (.iconst 2, 1) := by decide +kernel
theorem dX12_stroke_166 : decode cX12_stroke 166 = .ok (.iload 4, 2) := by decide +kernel
theorem dX12_stroke_168 : decode cX12_stroke 168 = .ok (.imul, 1) := by decide +kernel
theorem dX12_stroke_169 : decode cX12_stroke 169 = .ok (.iadd, 1) := by decide +kernel
theorem dX12_stroke_170 : decode cX12_stroke 170 = .ok (.iaload, 1) := by decide +kernel
theorem dX12_stroke_171 : decode cX12_stroke 171 = .ok (.iastore, 1) := by decide +kernel
theorem dX12_stroke_172 : decode cX12_stroke 172 = .ok (.aload_n 0, 1) := by decide +kernel
theorem dX12_stroke_173 : decode cX12_stroke 173 = .ok (.getfield 33, 3) := by decide +kernel
theorem dX12_stroke_176 : decode cX12_stroke 176 = .ok (.bipush 8, 2) := by decide +kernel
theorem dX12_stroke_178 : decode cX12_stroke 178 = .ok (.aload_n 0, 1) := by decide +kernel
theorem dX12_stroke_179 : decode cX12_stroke 179 = .ok (.getfield 105, 3) := by decide +kernel
theorem dX12_stroke_182 : decode cX12_stroke 182 = .ok (.imul, 1) := by decide +kernel
theorem dX12_stroke_183 : decode cX12_stroke 183 = .ok (.iload 4, 2) := by decide +kernel
theorem dX12_stroke_185 : decode cX12_stroke 185 = .ok (.iadd, 1) := by decide +kernel
theorem dX12_stroke_186 : decode cX12_stroke 186 = .ok (.aload_n 0, 1) := by decide +kernel
theorem dX12_stroke_187 : decode cX12_stroke 187 = .ok (.getfield 24, 3) := by decide +kernel
theorem dX12_stroke_190 : decode cX12_stroke 190 = .ok (.bipush 40, 2) := by decide +kernel
theorem dX12_stroke_192 : decode cX12_stroke 192 = .ok (.iload_n 1, 1) := by decide +kernel
theorem dX12_stroke_193 : decode cX12_stroke 193 = .ok (.imul, 1) := by decide +kernel
theorem dX12_stroke_194 : decode cX12_stroke 194 = .ok (.iload_n 2, 1) := by decide +kernel
theorem dX12_stroke_195 : decode cX12_stroke 195 = .ok (.iadd, 1) := by decide +kernel
theorem dX12_stroke_196 : decode cX12_stroke 196 = .ok (.iconst 2, 1) := by decide +kernel
theorem dX12_stroke_197 : decode cX12_stroke 197 = .ok (.iload 4, 2) := by decide +kernel
theorem dX12_stroke_199 : decode cX12_stroke 199 = .ok (.imul, 1) := by decide +kernel
theorem dX12_stroke_200 : decode cX12_stroke 200 = .ok (.iadd, 1) := by decide +kernel
theorem dX12_stroke_201 : decode cX12_stroke 201 = .ok (.iconst 1, 1) := by decide +kernel
theorem dX12_stroke_202 : decode cX12_stroke 202 = .ok (.iadd, 1) := by decide +kernel
theorem dX12_stroke_203 : decode cX12_stroke 203 = .ok (.iaload, 1) := by decide +kernel
theorem dX12_stroke_204 : decode cX12_stroke 204 = .ok (.iastore, 1) := by decide +kernel
theorem dX12_stroke_205 : decode cX12_stroke 205 = .ok (.iinc 4 1, 3) := by decide +kernel
theorem dX12_stroke_208 : decode cX12_stroke 208 = .ok (.goto (-73), 3) := by decide +kernel
theorem dX12_stroke_211 : decode cX12_stroke 211 = .ok (.aload_n 0, 1) := by decide +kernel
theorem dX12_stroke_212 : decode cX12_stroke 212 = .ok (.getfield 27, 3) := by decide +kernel
theorem dX12_stroke_215 : decode cX12_stroke 215 = .ok (.aload_n 0, 1) := by decide +kernel
theorem dX12_stroke_216 : decode cX12_stroke 216 = .ok (.getfield 105, 3) := by decide +kernel
theorem dX12_stroke_219 : decode cX12_stroke 219 = .ok (.iload_n 3, 1) := by decide +kernel
theorem dX12_stroke_220 : decode cX12_stroke 220 = .ok (.iastore, 1) := by decide +kernel
theorem dX12_stroke_221 : decode cX12_stroke 221 = .ok (.aload_n 0, 1) := by decide +kernel
theorem dX12_stroke_222 : decode cX12_stroke 222 = .ok (.dup, 1) := by decide +kernel
theorem dX12_stroke_223 : decode cX12_stroke 223 = .ok (.getfield 105, 3) := by decide +kernel
theorem dX12_stroke_226 : decode cX12_stroke 226 = .ok (.iconst 1, 1) := by decide +kernel
theorem dX12_stroke_227 : decode cX12_stroke 227 = .ok (.iadd, 1) := by decide +kernel
theorem dX12_stroke_228 : decode cX12_stroke 228 = .ok (.putfield 105, 3) := by decide +kernel
theorem dX12_stroke_231 : decode cX12_stroke 231 = .ok (.iconst 0, 1) := by decide +kernel
theorem dX12_stroke_232 : decode cX12_stroke 232 = .ok (.istore 4, 2) := by decide +kernel
theorem dX12_stroke_234 : decode cX12_stroke 234 = .ok (.iload 4, 2) := by decide +kernel
theorem dX12_stroke_236 : decode cX12_stroke 236 = .ok (.aload_n 0, 1) := by decide +kernel
theorem dX12_stroke_237 : decode cX12_stroke 237 = .ok (.getfield 105, 3) := by decide +kernel
theorem dX12_stroke_240 : decode cX12_stroke 240 = .ok (.if_icmp .ge 26, 3) := by decide +kernel
theorem dX12_stroke_243 : decode cX12_stroke 243 = .ok (.aload_n 0, 1) := by decide +kernel
theorem dX12_stroke_244 : decode cX12_stroke 244 = .ok (.getfield 36, 3) := by decide +kernel
theorem dX12_stroke_247 : decode cX12_stroke 247 = .ok (.iload 4, 2) := by decide +kernel
theorem dX12_stroke_249 : decode cX12_stroke 249 = .ok (.iload 4, 2) := by decide +kernel
theorem dX12_stroke_251 : decode cX12_stroke 251 = .ok (.iastore, 1) := by decide +kernel
theorem dX12_stroke_252 : decode cX12_stroke 252 = .ok (.aload_n 0, 1) := by decide +kernel
theorem dX12_stroke_253 : decode cX12_stroke 253 = .ok (.getfield 39, 3) := by decide +kernel
theorem dX12_stroke_256 : decode cX12_stroke 256 = .ok (.iload 4, 2) := by decide +kernel
theorem dX12_stroke_258 : decode cX12_stroke 258 = .ok (.iconst 0, 1) := by decide +kernel
theorem dX12_stroke_259 : decode cX12_stroke 259 = .ok (.iastore, 1) := by decide +kernel
theorem dX12_stroke_260 : decode cX12_stroke 260 = .ok (.iinc 4 1, 3) := by decide +kernel
theorem dX12_stroke_263 : decode cX12_stroke 263 = .ok (.goto (-29), 3) := by decide +kernel
theorem dX12_stroke_266 : decode cX12_stroke 266 = .ok (.aload_n 0, 1) := by decide +kernel
theorem dX12_stroke_267 : decode cX12_stroke 267 = .ok (.getfield 105, 3) := by decide +kernel
theorem dX12_stroke_270 : decode cX12_stroke 270 = .ok (.iconst 1, 1) := by decide +kernel
theorem dX12_stroke_271 : decode cX12_stroke 271 = .ok (.isub, 1) := by decide +kernel
theorem dX12_stroke_272 : decode cX12_stroke 272 = .ok (.ireturn, 1) := by decide +kernel
set_option maxRecDepth 20000 in
theorem ggX12_point_X12_isStroke : GoodIn wsX12_point wsX12_isStroke := goodIn_r _ [10, 11, 12, 13, 9, 14, 15, 16, 17, 18, 19, 20, 21, 22, 23, 24, 25, 26, 27, 28, 29, 30, 31, 32, 33, 34, 35, 36, 37, 38, 39, 40, 41, 42, 43, 44, 45, 46, 47, 48, 49, 50, 51, 52, 53, 54, 55, 56] (by decide +kernel) (by decide +kernel)
set_option maxRecDepth 20000 in
theorem gX12_point_X12_isStroke : GoodIn wsX12_point (wsV RX12 113 RX12 yX12_isStroke wsX12_isStroke) := goodIn_app (goodIn_of _ (by decide +kernel)) ggX12_point_X12_isStroke
set_option maxRecDepth 20000 in
theorem ggX12_point_X12_in : GoodIn wsX12_point wsX12_in := goodIn_r _ [14] (by decide +kernel) (by decide +kernel)
set_option maxRecDepth 20000 in
theorem gX12_point_X12_in : GoodIn wsX12_point (va_wsS RX12 90 yX12_in wsX12_in) := goodIn_app (goodIn_of _ (by decide +kernel)) ggX12_point_X12_in
theorem dX12_point_0 : decode cX12_point 0 = .ok (.aload_n 0, 1) := by decide +kernel
theorem dX12_point_1 : decode cX12_point 1 = .ok (.iconst 0, 1) := by decide +kernel
theorem dX12_point_2 : decode cX12_point 2 = .ok (.putfield 1, 3) := by decide +kernel
theorem dX12_point_5 : decode cX12_point 5 = .ok (.aload_n 0, 1) := by decide +kernel
theorem dX12_point_6 : decode cX12_point 6 = .ok (.iload_n 1, 1) := by decide +kernel
theorem dX12_point_7 : decode cX12_point 7 = .ok (.invokevirtual 113, 3) := by decide +kernel
theorem dX12_point_10 : decode cX12_point 10 = .ok (.ifCond .eq 31, 3) := by decide +kernel
theorem dX12_point_13 : decode cX12_point 13 = .ok (.iload_n 2, 1) := by decide +kernel
theorem dX12_point_14 : decode cX12_point 14 = .ok (.i2l, 1) := by decide +kernel
theorem dX12_point_15 : decode cX12_point 15 = .ok (.lconst 0, 1) := by decide +kernel
theorem dX12_point_16 : decode cX12_point 16 = .ok (.aload_n 0, 1) := by decide +kernel
theorem dX12_point_17 : decode cX12_point 17 = .ok (.getfield 27, 3) := by decide +kernel
theorem dX12_point_20 : decode cX12_point 20 = .ok (.iload_n 1, 1) := by decide +kernel
theorem dX12_point_21 : decode cX12_point 21 = .ok (.iaload, 1) := by decide +kernel
theorem dX12_point_22 : decode cX12_point 22 = .ok (.iconst 1, 1) := by decide +kernel
theorem dX12_point_23 : decode cX12_point 23 = .ok (.isub, 1) := by decide +kernel
theorem dX12_point_24 : decode cX12_point 24 = .ok (.i2l, 1) := by decide +kernel
theorem dX12_point_25 : decode cX12_point 25 = .ok (.invokestatic 90, 3) := by decide +kernel
theorem dX12_point_28 : decode cX12_point 28 = .ok (.ifCond .eq 13, 3) := by decide +kernel
theorem dX12_point_31 : decode cX12_point 31 = .ok (.iload_n 3, 1) := by decide +kernel
theorem dX12_point_32 : decode cX12_point 32 = .ok (.i2l, 1) := by decide +kernel
theorem dX12_point_33 : decode cX12_point 33 = .ok (.lconst 0, 1) := by decide +kernel
theorem dX12_point_34 : decode cX12_point 34 = .ok (.lconst 1, 1) := by decide +kernel
theorem dX12_point_35 : decode cX12_point 35 = .ok (.invokestatic 90, 3) := by decide +kernel
theorem dX12_point_38 : decode cX12_point 38 = .ok (.ifCond .ne 6, 3) := by decide +kernel
theorem dX12_point_41 : decode cX12_point 41 = .ok (.ldc 100, 2) := by decide +kernel
theorem dX12_point_43 : decode cX12_point 43 = .ok (.ireturn, 1) := by decide +kernel
theorem dX12_point_44 : decode cX12_point 44 = .ok (.iload_n 3, 1) := by decide +kernel
theorem dX12_point_45 : decode cX12_point 45 = .ok (.ifCond .ne 17, 3) := by decide +kernel
theorem dX12_point_48 : decode cX12_point 48 = .ok (.aload_n 0, 1) := by decide +kernel
theorem dX12_point_49 : decode cX12_point 49 = .ok (.getfield 30, 3) := by decide +kernel
theorem dX12_point_52 : decode cX12_point 52 = .ok (.bipush 8, 2) := by decide +kernel
theorem dX12_point_54 : decode cX12_point 54 = .ok (.iload_n 1, 1) := by decide +kernel
theorem dX12_point_55 : decode cX12_point 55 = .ok (.imul, 1) := by decide +kernel
theorem dX12_point_56 : decode cX12_point 56 = .ok (.iload_n 2, 1) := by decide +kernel
theorem dX12_point_57 : decode cX12_point 57 = .ok (.iadd, 1) := by decide +kernel
theorem dX12_point_58 : decode cX12_point 58 = .ok (.iaload, 1) := by decide +kernel
theorem dX12_point_59 : decode cX12_point 59 = .ok (.goto 14, 3) := by decide +kernel
theorem dX12_point_62 : decode cX12_point 62 = .ok (.aload_n 0, 1) := by decide +kernel
theorem dX12_point_63 : decode cX12_point 63 = .ok (.getfield 33, 3) := by decide +kernel
theorem dX12_point_66 : decode cX12_point 66 = .ok (.bipush 8, 2) := by decide +kernel
theorem dX12_point_68 : decode cX12_point 68 = .ok (.iload_n 1, 1) := by decide +kernel
theorem dX12_point_69 : decode cX12_point 69 = .ok (.imul, 1) := by decide +kernel
theorem dX12_point_70 : decode cX12_point 70 = .ok (.iload_n 2, 1) := by decide +kernel
theorem dX12_point_71 : decode cX12_point 71 = .ok (.iadd, 1) := by decide +kernel
theorem dX12_point_72 : decode cX12_point 72 = .ok (.iaload, 1) := by decide +kernel
theorem dX12_point_73 : decode cX12_point 73 = .ok (.ireturn, 1) := by decide +kernel
theorem dX12_size_0 : decode cX12_size 0 = .ok (.iload_n 0, 1) := by decide +kernel
theorem dX12_size_1 : decode cX12_size 1 = .ok (.ifCond .ge 8, 3) := by decide +kernel
theorem dX12_size_4 : decode cX12_size 4 = .ok (.iload_n 0, 1) := by decide +kernel
theorem dX12_size_5 : decode cX12_size 5 = .ok (.ineg, 1) := by decide +kernel
theorem dX12_size_6 : decode cX12_size 6 = .ok (.goto 4, 3) := by decide +kernel
theorem dX12_size_9 : decode cX12_size 9 = .ok (.iload_n 0, 1) := by decide +kernel
theorem dX12_size_10 : decode cX12_size 10 = .ok (.ireturn, 1) := by decide +kernel
set_option maxRecDepth 20000 in
theorem ggX12_way_X12_size : GoodIn wsX12_way wsX12_size := goodIn_r _ [4] (by decide +kernel) (by decide +kernel)
set_option maxRecDepth 20000 in
theorem gX12_way_X12_size : GoodIn wsX12_way (va_wsS RX12 116 yX12_size wsX12_size) := goodIn_app (goodIn_of _ (by decide +kernel)) ggX12_way_X12_size
theorem dX12_way_0 : decode cX12_way 0 = .ok (.iload_n 0, 1) := by decide +kernel
theorem dX12_way_1 : decode cX12_way 1 = .ok (.iload_n 2, 1) := by decide +kernel
theorem dX12_way_2 : decode cX12_way 2 = .ok (.isub, 1) := by decide +kernel
theorem dX12_way_3 : decode cX12_way 3 = .ok (.invokestatic 116, 3) := by decide +kernel
theorem dX12_way_6 : decode cX12_way 6 = .ok (.istore 4, 2) := by decide +kernel
theorem dX12_way_8 : decode cX12_way 8 = .ok (.iload_n 1, 1) := by decide +kernel
theorem dX12_way_9 : decode cX12_way 9 = .ok (.iload_n 3, 1) := by decide +kernel
theorem dX12_way_10 : decode cX12_way 10 = .ok (.isub, 1) := by decide +kernel
theorem dX12_way_11 : decode cX12_way 11 = .ok (.invokestatic 116, 3) := by decide +kernel
theorem dX12_way_14 : decode cX12_way 14 = .ok (.istore 5, 2) := by decide +kernel
theorem dX12_way_16 : decode cX12_way 16 = .ok (.iload 4, 2) := by decide +kernel
theorem dX12_way_18 : decode cX12_way 18 = .ok (.iload 5, 2) := by decide +kernel
theorem dX12_way_20 : decode cX12_way 20 = .ok (.if_icmp .le 8, 3) := by decide +kernel
theorem dX12_way_23 : decode cX12_way 23 = .ok (.iload 4, 2) := by decide +kernel
theorem dX12_way_25 : decode cX12_way 25 = .ok (.goto 5, 3) := by decide +kernel
theorem dX12_way_28 : decode cX12_way 28 = .ok (.iload 5, 2) := by decide +kernel
theorem dX12_way_30 : decode cX12_way 30 = .ok (.ireturn, 1) := by decide +kernel
theorem dX12_at_0 : decode cX12_at 0 = .ok (.bipush 8, 2) := by decide +kernel
theorem dX12_at_2 : decode cX12_at 2 = .ok (.iload_n 1, 1) := by decide +kernel
theorem dX12_at_3 : decode cX12_at 3 = .ok (.imul, 1) := by decide +kernel
theorem dX12_at_4 : decode cX12_at 4 = .ok (.iload_n 2, 1) := by decide +kernel
theorem dX12_at_5 : decode cX12_at 5 = .ok (.ifCond .ne 7, 3) := by decide +kernel
theorem dX12_at_8 : decode cX12_at 8 = .ok (.iload_n 3, 1) := by decide +kernel
theorem dX12_at_9 : decode cX12_at 9 = .ok (.goto 13, 3) := by decide +kernel
theorem dX12_at_12 : decode cX12_at 12 = .ok (.aload_n 0, 1) := by decide +kernel
theorem dX12_at_13 : decode cX12_at 13 = .ok (.getfield 27, 3) := by decide +kernel
theorem dX12_at_16 : decode cX12_at 16 = .ok (.iload_n 1, 1) := by decide +kernel
theorem dX12_at_17 : decode cX12_at 17 = .ok (.iaload, 1) := by decide +kernel
theorem dX12_at_18 : decode cX12_at 18 = .ok (.iconst 1, 1) := by decide +kernel
theorem dX12_at_19 : decode cX12_at 19 = .ok (.isub, 1) := by decide +kernel
theorem dX12_at_20 : decode cX12_at 20 = .ok (.iload_n 3, 1) := by decide +kernel
theorem dX12_at_21 : decode cX12_at 21 = .ok (.isub, 1) := by decide +kernel
theorem dX12_at_22 : decode cX12_at 22 = .ok (.iadd, 1) := by decide +kernel
theorem dX12_at_23 : decode cX12_at 23 = .ok (.ireturn, 1) := by decide +kernel
set_option maxRecDepth 20000 in
theorem ggX12_fromStart_X12_at : GoodIn wsX12_fromStart wsX12_at := goodIn_r _ [7, 8, 15, 16, 17, 18, 19, 20, 21, 22, 23, 24, 25, 26, 27, 28, 29, 30, 31, 32, 33, 34, 35, 36, 37, 38, 39, 40, 41, 42, 43, 44, 45, 46, 47, 48, 49, 50, 51, 52, 53, 54, 55, 56] (by decide +kernel) (by decide +kernel)
set_option maxRecDepth 20000 in
theorem gX12_fromStart_X12_at : GoodIn wsX12_fromStart (wsV RX12 119 RX12 yX12_at wsX12_at) := goodIn_app (goodIn_of _ (by decide +kernel)) ggX12_fromStart_X12_at
set_option maxRecDepth 20000 in
theorem ggX12_fromStart_X12_way : GoodIn wsX12_fromStart wsX12_way := goodIn_r _ [11, 12, 13, 6, 14] (by decide +kernel) (by decide +kernel)
set_option maxRecDepth 20000 in
theorem gX12_fromStart_X12_way : GoodIn wsX12_fromStart (va_wsS RX12 123 yX12_way wsX12_way) := goodIn_app (goodIn_of _ (by decide +kernel)) ggX12_fromStart_X12_way
theorem dX12_fromStart_0 : decode cX12_fromStart 0 = .ok (.aload_n 0, 1) := by decide +kernel
theorem dX12_fromStart_1 : decode cX12_fromStart 1 = .ok (.iload_n 1, 1) := by decide +kernel
theorem dX12_fromStart_2 : decode cX12_fromStart 2 = .ok (.iload_n 2, 1) := by decide +kernel
theorem dX12_fromStart_3 : decode cX12_fromStart 3 = .ok (.iconst 0, 1) := by decide +kernel
theorem dX12_fromStart_4 : decode cX12_fromStart 4 = .ok (.invokevirtual 119, 3) := by decide +kernel
theorem dX12_fromStart_7 : decode cX12_fromStart 7 = .ok (.istore_n 3, 1) := by decide +kernel
theorem dX12_fromStart_8 : decode cX12_fromStart 8 = .ok (.iconst 0, 1) := by decide +kernel
theorem dX12_fromStart_9 : decode cX12_fromStart 9 = .ok (.iconst 0, 1) := by decide +kernel
theorem dX12_fromStart_10 : decode cX12_fromStart 10 = .ok (.aload_n 0, 1) := by decide +kernel
theorem dX12_fromStart_11 : decode cX12_fromStart 11 = .ok (.getfield 30, 3) := by decide +kernel
theorem dX12_fromStart_14 : decode cX12_fromStart 14 = .ok (.iload_n 3, 1) := by decide +kernel
theorem dX12_fromStart_15 : decode cX12_fromStart 15 = .ok (.iaload, 1) := by decide +kernel
theorem dX12_fromStart_16 : decode cX12_fromStart 16 = .ok (.aload_n 0, 1) := by decide +kernel
theorem dX12_fromStart_17 : decode cX12_fromStart 17 = .ok (.getfield 33, 3) := by decide +kernel
theorem dX12_fromStart_20 : decode cX12_fromStart 20 = .ok (.iload_n 3, 1) := by decide +kernel
theorem dX12_fromStart_21 : decode cX12_fromStart 21 = .ok (.iaload, 1) := by decide +kernel
theorem dX12_fromStart_22 : decode cX12_fromStart 22 = .ok (.invokestatic 123, 3) := by decide +kernel
theorem dX12_fromStart_25 : decode cX12_fromStart 25 = .ok (.ireturn, 1) := by decide +kernel
set_option maxRecDepth 20000 in
theorem ggX12_toStart_X12_at : GoodIn wsX12_toStart wsX12_at := goodIn_r _ [8, 1, 15, 16, 17, 18, 19, 20, 21, 22, 23, 24, 25, 26, 27, 28, 29, 30, 31, 32, 33, 34, 35, 36, 37, 38, 39, 40, 41, 42, 43, 44, 45, 46, 47, 48, 49, 50, 51, 52, 53, 54, 55, 56] (by decide +kernel) (by decide +kernel)
set_option maxRecDepth 20000 in
theorem gX12_toStart_X12_at : GoodIn wsX12_toStart (wsV RX12 119 RX12 yX12_at wsX12_at) := goodIn_app (goodIn_of _ (by decide +kernel)) ggX12_toStart_X12_at
set_option maxRecDepth 20000 in
theorem ggX12_toStart_X12_way : GoodIn wsX12_toStart wsX12_way := goodIn_r _ [11, 12, 13, 7, 14] (by decide +kernel) (by decide +kernel)
set_option maxRecDepth 20000 in
theorem gX12_toStart_X12_way : GoodIn wsX12_toStart (va_wsS RX12 123 yX12_way wsX12_way) := goodIn_app (goodIn_of _ (by decide +kernel)) ggX12_toStart_X12_way
theorem dX12_toStart_0 : decode cX12_toStart 0 = .ok (.aload_n 0, 1) := by decide +kernel
theorem dX12_toStart_1 : decode cX12_toStart 1 = .ok (.iload_n 1, 1) := by decide +kernel
theorem dX12_toStart_2 : decode cX12_toStart 2 = .ok (.iload_n 2, 1) := by decide +kernel
theorem dX12_toStart_3 : decode cX12_toStart 3 = .ok (.aload_n 0, 1) := by decide +kernel
theorem dX12_toStart_4 : decode cX12_toStart 4 = .ok (.getfield 27, 3) := by decide +kernel
theorem dX12_toStart_7 : decode cX12_toStart 7 = .ok (.iload_n 1, 1) := by decide +kernel
theorem dX12_toStart_8 : decode cX12_toStart 8 = .ok (.iaload, 1) := by decide +kernel
theorem dX12_toStart_9 : decode cX12_toStart 9 = .ok (.iconst 1, 1) := by decide +kernel
theorem dX12_toStart_10 : decode cX12_toStart 10 = .ok (.isub, 1) := by decide +kernel
theorem dX12_toStart_11 : decode cX12_toStart 11 = .ok (.invokevirtual 119, 3) := by decide +kernel
theorem dX12_toStart_14 : decode cX12_toStart 14 = .ok (.istore_n 3, 1) := by decide +kernel
theorem dX12_toStart_15 : decode cX12_toStart 15 = .ok (.aload_n 0, 1) := by decide +kernel
theorem dX12_toStart_16 : decode cX12_toStart 16 = .ok (.getfield 30, 3) := by decide +kernel
theorem dX12_toStart_19 : decode cX12_toStart 19 = .ok (.iload_n 3, 1) := by decide +kernel
theorem dX12_toStart_20 : decode cX12_toStart 20 = .ok (.iaload, 1) := by decide +kernel
theorem dX12_toStart_21 : decode cX12_toStart 21 = .ok (.aload_n 0, 1) := by decide +kernel
theorem dX12_toStart_22 : decode cX12_toStart 22 = .ok (.getfield 33, 3) := by decide +kernel
theorem dX12_toStart_25 : decode cX12_toStart 25 = .ok (.iload_n 3, 1) := by decide +kernel
theorem dX12_toStart_26 : decode cX12_toStart 26 = .ok (.iaload, 1) := by decide +kernel
theorem dX12_toStart_27 : decode cX12_toStart 27 = .ok (.iconst 0, 1) := by decide +kernel
theorem dX12_toStart_28 : decode cX12_toStart 28 = .ok (.iconst 0, 1) := by decide +kernel
theorem dX12_toStart_29 : decode cX12_toStart 29 = .ok (.invokestatic 123, 3) := by decide +kernel
theorem dX12_toStart_32 : decode cX12_toStart 32 = .ok (.ireturn, 1) := by decide +kernel
set_option maxRecDepth 20000 in
theorem ggX12_between_X12_at : GoodIn wsX12_between wsX12_at := goodIn_r _ [8, 1, 15, 16, 17, 18, 19, 20, 21, 22, 23, 24, 25, 26, 27, 28, 29, 30, 31, 32, 33, 34, 35, 36, 37, 38, 39, 40, 41, 42, 43, 44, 45, 46, 47, 48, 49, 50, 51, 52, 53, 54, 55, 56] (by decide +kernel) (by decide +kernel)
set_option maxRecDepth 20000 in
theorem gX12_between_X12_at : GoodIn wsX12_between (wsV RX12 119 RX12 yX12_at wsX12_at) := goodIn_app (goodIn_of _ (by decide +kernel)) ggX12_between_X12_at
set_option maxRecDepth 20000 in
theorem ggX12_between_X12_way : GoodIn wsX12_between wsX12_way := goodIn_r _ [11, 12, 13, 7, 14] (by decide +kernel) (by decide +kernel)
set_option maxRecDepth 20000 in
theorem gX12_between_X12_way : GoodIn wsX12_between (va_wsS RX12 123 yX12_way wsX12_way) := goodIn_app (goodIn_of _ (by decide +kernel)) ggX12_between_X12_way
theorem dX12_between_0 : decode cX12_between 0 = .ok (.aload_n 0, 1) := by decide +kernel
theorem dX12_between_1 : decode cX12_between 1 = .ok (.iload_n 1, 1) := by decide +kernel
theorem dX12_between_2 : decode cX12_between 2 = .ok (.iload_n 2, 1) := by decide +kernel
theorem dX12_between_3 : decode cX12_between 3 = .ok (.aload_n 0, 1) := by decide +kernel
theorem dX12_between_4 : decode cX12_between 4 = .ok (.getfield 27, 3) := by decide +kernel
theorem dX12_between_7 : decode cX12_between 7 = .ok (.iload_n 1, 1) := by decide +kernel
theorem dX12_between_8 : decode cX12_between 8 = .ok (.iaload, 1) := by decide +kernel
theorem dX12_between_9 : decode cX12_between 9 = .ok (.iconst 1, 1) := by decide +kernel
theorem dX12_between_10 : decode cX12_between 10 = .ok (.isub, 1) := by decide +kernel
theorem dX12_between_11 : decode cX12_between 11 = .ok (.invokevirtual 119, 3) := by decide +kernel
theorem dX12_between_14 : decode cX12_between 14 = .ok (.istore 5, 2) := by decide +kernel
theorem dX12_between_16 : decode cX12_between 16 = .ok (.aload_n 0, 1) := by decide +kernel
theorem dX12_between_17 : decode cX12_between 17 = .ok (.iload_n 3, 1) := by decide +kernel
theorem dX12_between_18 : decode cX12_between 18 = .ok (.iload 4, 2) := by decide +kernel
theorem dX12_between_20 : decode cX12_between 20 = .ok (.iconst 0, 1) := by decide +kernel
theorem dX12_between_21 : decode cX12_between 21 = .ok (.invokevirtual 119, 3) := by decide +kernel
theorem dX12_between_24 : decode cX12_between 24 = .ok (.istore 6, 2) := by decide +kernel
theorem dX12_between_26 : decode cX12_between 26 = .ok (.aload_n 0, 1) := by decide +kernel
theorem dX12_between_27 : decode cX12_between 27 = .ok (.getfield 30, 3) := by decide +kernel
theorem dX12_between_30 : decode cX12_between 30 = .ok (.iload 5, 2) := by decide +kernel
theorem dX12_between_32 : decode cX12_between 32 = .ok (.iaload, 1) := by decide +kernel
theorem dX12_between_33 : decode cX12_between 33 = .ok (.aload_n 0, 1) := by decide +kernel
theorem dX12_between_34 : decode cX12_between 34 = .ok (.getfield 33, 3) := by decide +kernel
theorem dX12_between_37 : decode cX12_between 37 = .ok (.iload 5, 2) := by decide +kernel
theorem dX12_between_39 : decode cX12_between 39 = .ok (.iaload, 1) := by decide +kernel
theorem dX12_between_40 : decode cX12_between 40 = .ok (.aload_n 0, 1) := by decide +kernel
theorem dX12_between_41 : decode cX12_between 41 = .ok (.getfield 30, 3) := by decide +kernel
theorem dX12_between_44 : decode cX12_between 44 = .ok (.iload 6, 2) := by decide +kernel
theorem dX12_between_46 : decode cX12_between 46 = .ok (.iaload, 1) := by decide +kernel
theorem dX12_between_47 : decode cX12_between 47 = .ok (.aload_n 0, 1) := by decide +kernel
theorem dX12_between_48 : decode cX12_between 48 = .ok (.getfield 33, 3) := by decide +kernel
theorem dX12_between_51 : decode cX12_between 51 = .ok (.iload 6, 2) := by decide +kernel
theorem dX12_between_53 : decode cX12_between 53 = .ok (.iaload, 1) := by decide +kernel
theorem dX12_between_54 : decode cX12_between 54 = .ok (.invokestatic 123, 3) := by decide +kernel
theorem dX12_between_57 : decode cX12_between 57 = .ok (.ireturn, 1) := by decide +kernel
set_option maxRecDepth 20000 in
theorem ggX12_dark_X12_fromStart : GoodIn wsX12_dark wsX12_fromStart := goodIn_r _ [8, 9, 10, 11, 12, 13, 7, 14, 15, 16, 17, 18, 19, 20, 21, 30, 31, 32, 33, 34, 35, 36, 37, 38, 39, 40, 41, 42, 43, 44, 45, 46, 47, 48, 49, 50, 51, 52, 53, 54, 55, 56, 57, 58, 59, 60, 61, 62, 63, 64, 65, 66, 67, 68, 69, 70, 71] (by decide +kernel) (by decide +kernel)
set_option maxRecDepth 20000 in
theorem gX12_dark_X12_fromStart : GoodIn wsX12_dark (wsV RX12 127 RX12 yX12_fromStart wsX12_fromStart) := goodIn_app (goodIn_of _ (by decide +kernel)) ggX12_dark_X12_fromStart
set_option maxRecDepth 20000 in
theorem ggX12_dark_X12_toStart : GoodIn wsX12_dark wsX12_toStart := goodIn_r _ [25, 15, 9, 10, 11, 12, 13, 7, 14, 16, 17, 18, 19, 20, 21, 30, 31, 32, 33, 34, 35, 36, 37, 38, 39, 40, 41, 42, 43, 44, 45, 46, 47, 48, 49, 50, 51, 52, 53, 54, 55, 56, 57, 58, 59, 60, 61, 62, 63, 64, 65, 66, 67, 68, 69, 70, 71] (by decide +kernel) (by decide +kernel)
set_option maxRecDepth 20000 in
theorem gX12_dark_X12_toStart : GoodIn wsX12_dark (wsV RX12 131 RX12 yX12_toStart wsX12_toStart) := goodIn_app (goodIn_of _ (by decide +kernel)) ggX12_dark_X12_toStart
set_option maxRecDepth 20000 in
theorem ggX12_dark_X12_between : GoodIn wsX12_dark wsX12_between := goodIn_r _ [29, 15, 9, 10, 11, 12, 13, 7, 14, 16, 17, 18, 19, 20, 21, 30, 31, 32, 33, 34, 35, 36, 37, 38, 39, 40, 41, 42, 43, 44, 45, 46, 47, 48, 49, 50, 51, 52, 53, 54, 55, 56, 57, 58, 59, 60, 61, 62, 63, 64, 65, 66, 67, 68, 69, 70, 71] (by decide +kernel) (by decide +kernel)
set_option maxRecDepth 20000 in
theorem gX12_dark_X12_between : GoodIn wsX12_dark (wsV RX12 134 RX12 yX12_between wsX12_between) := goodIn_app (goodIn_of _ (by decide +kernel)) ggX12_dark_X12_between
theorem dX12_dark_0 : decode cX12_dark 0 = .ok (.aload_n 0, 1) := by decide +kernel
theorem dX12_dark_1 : decode cX12_dark 1 = .ok (.aload_n 0, 1) := by decide +kernel
theorem dX12_dark_2 : decode cX12_dark 2 = .ok (.getfield 36, 3) := by decide +kernel
theorem dX12_dark_5 : decode cX12_dark 5 = .ok (.iconst 0, 1) := by decide +kernel
theorem dX12_dark_6 : decode cX12_dark 6 = .ok (.iaload, 1) := by decide +kernel
theorem dX12_dark_7 : decode cX12_dark 7 = .ok (.aload_n 0, 1) := by decide +kernel
theorem dX12_dark_8 : decode cX12_dark 8 = .ok (.getfield 39, 3) := by decide +kernel
theorem dX12_dark_11 : decode cX12_dark 11 = .ok (.iconst 0, 1) := by decide +kernel
theorem dX12_dark_12 : decode cX12_dark 12 = .ok (.iaload, 1) := by decide +kernel
theorem dX12_dark_13 : decode cX12_dark 13 = .ok (.invokevirtual 127, 3) := by decide +kernel
theorem dX12_dark_16 : decode cX12_dark 16 = .ok (.aload_n 0, 1) := by decide +kernel
theorem dX12_dark_17 : decode cX12_dark 17 = .ok (.aload_n 0, 1) := by decide +kernel
theorem dX12_dark_18 : decode cX12_dark 18 = .ok (.getfield 36, 3) := by decide +kernel
theorem dX12_dark_21 : decode cX12_dark 21 = .ok (.aload_n 0, 1) := by decide +kernel
theorem dX12_dark_22 : decode cX12_dark 22 = .ok (.getfield 105, 3) := by decide +kernel
theorem dX12_dark_25 : decode cX12_dark 25 = .ok (.iconst 1, 1) := by decide +kernel
theorem dX12_dark_26 : decode cX12_dark 26 = .ok (.isub, 1) := by decide +kernel
theorem dX12_dark_27 : decode cX12_dark 27 = .ok (.iaload, 1) := by decide +kernel
theorem dX12_dark_28 : decode cX12_dark 28 = .ok (.aload_n 0, 1) := by decide +kernel
theorem dX12_dark_29 : decode cX12_dark 29 = .ok (.getfield 39, 3) := by decide +kernel
theorem dX12_dark_32 : decode cX12_dark 32 = .ok (.aload_n 0, 1) := by decide +kernel
theorem dX12_dark_33 : decode cX12_dark 33 = .ok (.getfield 105, 3) := by decide +kernel
theorem dX12_dark_36 : decode cX12_dark 36 = .ok (.iconst 1, 1) := by decide +kernel
theorem dX12_dark_37 : decode cX12_dark 37 = .ok (.isub, 1) := by decide +kernel
theorem dX12_dark_38 : decode cX12_dark 38 = .ok (.iaload, 1) := by decide +kernel
theorem dX12_dark_39 : decode cX12_dark 39 = .ok (.invokevirtual 131, 3) := by decide +kernel
theorem dX12_dark_42 : decode cX12_dark 42 = .ok (.iadd, 1) := by decide +kernel
theorem dX12_dark_43 : decode cX12_dark 43 = .ok (.istore_n 1, 1) := by decide +kernel
theorem dX12_dark_44 : decode cX12_dark 44 = .ok (.iconst 1, 1) := by decide +kernel
theorem dX12_dark_45 : decode cX12_dark 45 = .ok (.istore_n 2, 1) := by decide +kernel
theorem dX12_dark_46 : decode cX12_dark 46 = .ok (.iload_n 2, 1) := by decide +kernel
theorem dX12_dark_47 : decode cX12_dark 47 = .ok (.aload_n 0, 1) := by decide +kernel
theorem dX12_dark_48 : decode cX12_dark 48 = .ok (.getfield 105, 3) := by decide +kernel
theorem dX12_dark_51 : decode cX12_dark 51 = .ok (.if_icmp .ge 44, 3) := by decide +kernel
theorem dX12_dark_54 : decode cX12_dark 54 = .ok (.iload_n 1, 1) := by decide +kernel
theorem dX12_dark_55 : decode cX12_dark 55 = .ok (.aload_n 0, 1) := by decide +kernel
theorem dX12_dark_56 : decode cX12_dark 56 = .ok (.aload_n 0, 1) := by decide +kernel
theorem dX12_dark_57 : decode cX12_dark 57 = .ok (.getfield 36, 3) := by decide +kernel
theorem dX12_dark_60 : decode cX12_dark 60 = .ok (.iload_n 2, 1) := by decide +kernel
theorem dX12_dark_61 : decode cX12_dark 61 = .ok (.iconst 1, 1) := by decide +kernel
theorem dX12_dark_62 : decode cX12_dark 62 = .ok (.isub, 1) := by decide +kernel
theorem dX12_dark_63 : decode cX12_dark 63 = .ok (.iaload, 1) := by decide +kernel
theorem dX12_dark_64 : decode cX12_dark 64 = .ok (.aload_n 0, 1) := by decide +kernel
theorem dX12_dark_65 : decode cX12_dark 65 = .ok (.getfield 39, 3) := by decide +kernel
theorem dX12_dark_68 : decode cX12_dark 68 = .ok (.iload_n 2, 1) := by decide +kernel
theorem dX12_dark_69 : decode cX12_dark 69 = .ok (.iconst 1, 1) := by decide +kernel
theorem dX12_dark_70 : decode cX12_dark 70 = .ok (.isub, 1) := by decide +kernel
theorem dX12_dark_71 : decode cX12_dark 71 = .ok (.iaload, 1) := by decide +kernel
theorem dX12_dark_72 : decode cX12_dark 72 = .ok (.aload_n 0, 1) := by decide +kernel
theorem dX12_dark_73 : decode cX12_dark 73 = .ok (.getfield 36, 3) := by decide +kernel
theorem dX12_dark_76 : decode cX12_dark 76 = .ok (.iload_n 2, 1) := by decide +kernel
theorem dX12_dark_77 : decode cX12_dark 77 = .ok (.iaload, 1) := by decide +kernel
theorem dX12_dark_78 : decode cX12_dark 78 = .ok (.aload_n 0, 1) := by decide +kernel
theorem dX12_dark_79 : decode cX12_dark 79 = .ok (.getfield 39, 3) := by decide +kernel
theorem dX12_dark_82 : decode cX12_dark 82 = .ok (.iload_n 2, 1) := by decide +kernel
theorem dX12_dark_83 : decode cX12_dark 83 = .ok (.iaload, 1) := by decide +kernel
theorem dX12_dark_84 : decode cX12_dark 84 = .ok (.invokevirtual 134, 3) := by decide +kernel
theorem dX12_dark_87 : decode cX12_dark 87 = .ok (.iadd, 1) := by decide +kernel
theorem dX12_dark_88 : decode cX12_dark 88 = .ok (.istore_n 1, 1) := by decide +kernel
theorem dX12_dark_89 : decode cX12_dark 89 = .ok (.iinc 2 1, 3) := by decide +kernel
theorem dX12_dark_92 : decode cX12_dark 92 = .ok (.goto (-46), 3) := by decide +kernel
theorem dX12_dark_95 : decode cX12_dark 95 = .ok (.iload_n 1, 1) := by decide +kernel
theorem dX12_dark_96 : decode cX12_dark 96 = .ok (.ireturn, 1) := by decide +kernel
set_option maxRecDepth 20000 in
theorem ggX12_plan_X12_isSheet : GoodIn wsX12_plan wsX12_isSheet := goodIn_r _ [14, 15, 16, 17, 13, 18] (by decide +kernel) (by decide +kernel)
set_option maxRecDepth 20000 in
theorem gX12_plan_X12_isSheet : GoodIn wsX12_plan (va_wsS RX12 94 yX12_isSheet wsX12_isSheet) := goodIn_app (goodIn_of _ (by decide +kernel)) ggX12_plan_X12_isSheet
set_option maxRecDepth 20000 in
theorem ggX12_plan_X12_found : GoodIn wsX12_plan wsX12_found := goodIn_r _ [22, 8, 23, 57, 58, 59, 60, 61, 62, 63, 64, 65, 66, 67, 68, 69, 70, 71, 72, 73, 74, 75, 76, 77, 78, 79, 80, 81, 82, 83, 84, 85, 86, 87, 88, 89, 90, 91, 92, 93, 94, 95, 96, 97, 98] (by decide +kernel) (by decide +kernel)
set_option maxRecDepth 20000 in
theorem gX12_plan_X12_found : GoodIn wsX12_plan (wsV RX12 101 RX12 yX12_found wsX12_found) := goodIn_app (goodIn_of _ (by decide +kernel)) ggX12_plan_X12_found
set_option maxRecDepth 20000 in
theorem ggX12_plan_X12_isStroke : GoodIn wsX12_plan wsX12_isStroke := goodIn_r _ [27, 3, 16, 17, 13, 18, 57, 58, 59, 60, 61, 62, 63, 64, 65, 66, 67, 68, 69, 70, 71, 72, 73, 74, 75, 76, 77, 78, 79, 80, 81, 82, 83, 84, 85, 86, 87, 88, 89, 90, 91, 92, 93, 94, 95, 96, 97, 98] (by decide +kernel) (by decide +kernel)
set_option maxRecDepth 20000 in
theorem gX12_plan_X12_isStroke : GoodIn wsX12_plan (wsV RX12 113 RX12 yX12_isStroke wsX12_isStroke) := goodIn_app (goodIn_of _ (by decide +kernel)) ggX12_plan_X12_isStroke
set_option maxRecDepth 20000 in
theorem ggX12_plan_X12_in : GoodIn wsX12_plan wsX12_in := goodIn_r _ [18] (by decide +kernel) (by decide +kernel)
set_option maxRecDepth 20000 in
theorem gX12_plan_X12_in : GoodIn wsX12_plan (va_wsS RX12 90 yX12_in wsX12_in) := goodIn_app (goodIn_of _ (by decide +kernel)) ggX12_plan_X12_in
set_option maxRecDepth 20000 in
theorem ggX12_plan_X12_dark : GoodIn wsX12_plan wsX12_dark := goodIn_r _ [31, 9, 10, 3, 32, 33, 34, 13, 35, 36, 37, 38, 39, 40, 41, 42, 43, 44, 45, 46, 47, 48, 49, 50, 51, 52, 53, 54, 55, 56, 57, 58, 59, 60, 61, 62, 63, 64, 65, 66, 67, 68, 69, 70, 71, 72, 73, 74, 75, 76, 77, 78, 79, 80, 81, 82, 83, 84, 85, 86, 87, 88, 89, 90, 91, 92, 93, 94, 95, 96, 97, 98] (by decide +kernel) (by decide +kernel)
set_option maxRecDepth 20000 in
theorem gX12_plan_X12_dark : GoodIn wsX12_plan (wsV RX12 138 RX12 yX12_dark wsX12_dark) := goodIn_app (goodIn_of _ (by decide +kernel)) ggX12_plan_X12_dark
theorem dX12_plan_0 : decode cX12_plan 0 = .ok (.aload_n 0, 1) := by decide +kernel
theorem dX12_plan_1 : decode cX12_plan 1 = .ok (.iconst 0, 1) := by decide +kernel
theorem dX12_plan_2 : decode cX12_plan 2 = .ok (.putfield 1, 3) := by decide +kernel
theorem dX12_plan_5 : decode cX12_plan 5 = .ok (.iload_n 1, 1) := by decide +kernel
theorem dX12_plan_6 : decode cX12_plan 6 = .ok (.invokestatic 94, 3) := by decide +kernel
theorem dX12_plan_9 : decode cX12_plan 9 = .ok (.ifCond .ne 6, 3) := by decide +kernel
theorem dX12_plan_12 : decode cX12_plan 12 = .ok (.ldc 100, 2) := by decide +kernel
theorem dX12_plan_14 : decode cX12_plan 14 = .ok (.ireturn, 1) := by decide +kernel
theorem dX12_plan_15 : decode cX12_plan 15 = .ok (.aload_n 0, 1) := by decide +kernel
theorem dX12_plan_16 : decode cX12_plan 16 = .ok (.getfield 105, 3) := by decide +kernel
theorem dX12_plan_19 : decode cX12_plan 19 = .ok (.ifCond .ne 6, 3) := by decide +kernel
theorem dX12_plan_22 : decode cX12_plan 22 = .ok (.ldc 137, 2) := by decide +kernel
theorem dX12_plan_24 : decode cX12_plan 24 = .ok (.ireturn, 1) := by decide +kernel
theorem dX12_plan_25 : decode cX12_plan 25 = .ok (.aload_n 0, 1) := by decide +kernel
theorem dX12_plan_26 : decode cX12_plan 26 = .ok (.getfield 17, 3) := by decide +kernel
theorem dX12_plan_29 : decode cX12_plan 29 = .ok (.iload_n 1, 1) := by decide +kernel
theorem dX12_plan_30 : decode cX12_plan 30 = .ok (.iaload, 1) := by decide +kernel
theorem dX12_plan_31 : decode cX12_plan 31 = .ok (.ifCond .ge 9, 3) := by decide +kernel
theorem dX12_plan_34 : decode cX12_plan 34 = .ok (.aload_n 0, 1) := by decide +kernel
theorem dX12_plan_35 : decode cX12_plan 35 = .ok (.iconst 1, 1) := by decide +kernel
theorem dX12_plan_36 : decode cX12_plan 36 = .ok (.invokevirtual 101, 3) := by decide +kernel
theorem dX12_plan_39 : decode cX12_plan 39 = .ok (.ireturn, 1) := by decide +kernel
theorem dX12_plan_40 : decode cX12_plan 40 = .ok (.iload_n 2, 1) := by decide +kernel
theorem dX12_plan_41 : decode cX12_plan 41 = .ok (.ifCond .lt 24, 3) := by decide +kernel
theorem dX12_plan_44 : decode cX12_plan 44 = .ok (.iload_n 2, 1) := by decide +kernel
theorem dX12_plan_45 : decode cX12_plan 45 = .ok (.i2l, 1) := by decide +kernel
theorem dX12_plan_46 : decode cX12_plan 46 = .ok (.iconst 2, 1) := by decide +kernel
theorem dX12_plan_47 : decode cX12_plan 47 = .ok (.aload_n 0, 1) := by decide +kernel
theorem dX12_plan_48 : decode cX12_plan 48 = .ok (.getfield 105, 3) := by decide +kernel
theorem dX12_plan_51 : decode cX12_plan 51 = .ok (.imul, 1) := by decide +kernel
theorem dX12_plan_52 : decode cX12_plan 52 = .ok (.i2l, 1) := by decide +kernel
theorem dX12_plan_53 : decode cX12_plan 53 = .ok (.ladd, 1) := by decide +kernel
theorem dX12_plan_54 : decode cX12_plan 54 = .ok (.aload_n 0, 1) := by decide +kernel
theorem dX12_plan_55 : decode cX12_plan 55 = .ok (.getfield 21, 3) := by decide +kernel
theorem dX12_plan_58 : decode cX12_plan 58 = .ok (.iload_n 1, 1) := by decide +kernel
theorem dX12_plan_59 : decode cX12_plan 59 = .ok (.iaload, 1) := by decide +kernel
theorem dX12_plan_60 : decode cX12_plan 60 = .ok (.i2l, 1) := by decide +kernel
theorem dX12_plan_61 : decode cX12_plan 61 = .ok (.lcmp, 1) := by decide +kernel
theorem dX12_plan_62 : decode cX12_plan 62 = .ok (.ifCond .le 9, 3) := by decide +kernel
theorem dX12_plan_65 : decode cX12_plan 65 = .ok (.aload_n 0, 1) := by decide +kernel
theorem dX12_plan_66 : decode cX12_plan 66 = .ok (.iconst 2, 1) := by decide +kernel
theorem dX12_plan_67 : decode cX12_plan 67 = .ok (.invokevirtual 101, 3) := by decide +kernel
theorem dX12_plan_70 : decode cX12_plan 70 = .ok (.ireturn, 1) := by decide +kernel
theorem dX12_plan_71 : decode cX12_plan 71 = .ok (.iconst 0, 1) := by decide +kernel
theorem dX12_plan_72 : decode cX12_plan 72 = .ok (.istore_n 3, 1) := by decide +kernel
theorem dX12_plan_73 : decode cX12_plan 73 = .ok (.iconst 0, 1) := by decide +kernel
theorem dX12_plan_74 : decode cX12_plan 74 = .ok (.istore 4, 2) := by decide +kernel
theorem dX12_plan_76 : decode cX12_plan 76 = .ok (.iload 4, 2) := by decide +kernel
theorem dX12_plan_78 : decode cX12_plan 78 = .ok (.aload_n 0, 1) := by decide +kernel
theorem dX12_plan_79 : decode cX12_plan 79 = .ok (.getfield 105, 3) := by decide +kernel
theorem dX12_plan_82 : decode cX12_plan 82 = .ok (.if_icmp .ge 83, 3) := by decide +kernel
theorem dX12_plan_85 : decode cX12_plan 85 = .ok (.aload_n 0, 1) := by decide +kernel
theorem dX12_plan_86 : decode cX12_plan 86 = .ok (.getfield 24, 3) := by decide +kernel
theorem dX12_plan_89 : decode cX12_plan 89 = .ok (.bipush 40, 2) := by decide +kernel
theorem dX12_plan_91 : decode cX12_plan 91 = .ok (.iload_n 1, 1) := by decide +kernel
theorem dX12_plan_92 : decode cX12_plan 92 = .ok (.imul, 1) := by decide +kernel
theorem dX12_plan_93 : decode cX12_plan 93 = .ok (.iload_n 2, 1) := by decide +kernel
theorem dX12_plan_94 : decode cX12_plan 94 = .ok (.iadd, 1) := by decide +kernel
theorem dX12_plan_95 : decode cX12_plan 95 = .ok (.iconst 2, 1) := by decide +kernel
theorem dX12_plan_96 : decode cX12_plan 96 = .ok (.iload 4, 2) := by decide +kernel
theorem dX12_plan_98 : decode cX12_plan 98 = .ok (.imul, 1) := by decide +kernel
theorem dX12_plan_99 : decode cX12_plan 99 = .ok (.iadd, 1) := by decide +kernel
theorem dX12_plan_100 : decode cX12_plan 100 = .ok (.iaload, 1) := by decide +kernel
theorem dX12_plan_101 : decode cX12_plan 101 = .ok (.istore 5, 2) := by decide +kernel
theorem dX12_plan_103 : decode cX12_plan 103 = .ok (.aload_n 0, 1) := by decide +kernel
theorem dX12_plan_104 : decode cX12_plan 104 = .ok (.iload 5, 2) := by decide +kernel
theorem dX12_plan_106 : decode cX12_plan 106 = .ok (.invokevirtual 113, 3) := by decide +kernel
theorem dX12_plan_109 : decode cX12_plan 109 = .ok (.ifCond .eq 40, 3) := by decide +kernel
theorem dX12_plan_112 : decode cX12_plan 112 = .ok (.iload_n 3, 1) := by decide +kernel
theorem dX12_plan_113 : decode cX12_plan 113 = .ok (.iload 5, 2) := by decide +kernel
theorem dX12_plan_115 : decode cX12_plan 115 = .ok (.ishr, 1) := by decide +kernel
theorem dX12_plan_116 : decode cX12_plan 116 = .ok (.iconst 1, 1) := by decide +kernel
theorem dX12_plan_117 : decode cX12_plan 117 = .ok (.iand, 1) := by decide +kernel
theorem dX12_plan_118 : decode cX12_plan 118 = .ok (.iconst 1, 1) := by decide +kernel
theorem dX12_plan_119 : decode cX12_plan 119 = .ok (.if_icmp .eq 30, 3) := by decide +kernel
theorem dX12_plan_122 : decode cX12_plan 122 = .ok (.aload_n 0, 1) := by decide +kernel
theorem dX12_plan_123 : decode cX12_plan 123 = .ok (.getfield 24, 3) := by decide +kernel
theorem dX12_plan_126 : decode cX12_plan 126 = .ok (.bipush 40, 2) := by decide +kernel
theorem dX12_plan_128 : decode cX12_plan 128 = .ok (.iload_n 1, 1) := by decide +kernel
theorem dX12_plan_129 : decode cX12_plan 129 = .ok (.imul, 1) := by decide +kernel
theorem dX12_plan_130 : decode cX12_plan 130 = .ok (.iload_n 2, 1) := by decide +kernel
theorem dX12_plan_131 : decode cX12_plan 131 = .ok (.iadd, 1) := by decide +kernel
theorem dX12_plan_132 : decode cX12_plan 132 = .ok (.iconst 2, 1) := by decide +kernel
theorem dX12_plan_133 : decode cX12_plan 133 = .ok (.iload 4, 2) := by decide +kernel
theorem dX12_plan_135 : decode cX12_plan 135 = .ok (.imul, 1) := by decide +kernel
theorem dX12_plan_136 : decode cX12_plan 136 = .ok (.iadd, 1) := by decide +kernel
theorem dX12_plan_137 : decode cX12_plan 137 = .ok (.iconst 1, 1) := by decide +kernel
theorem dX12_plan_138 : decode cX12_plan 138 = .ok (.iadd, 1) := by decide +kernel
theorem dX12_plan_139 : decode cX12_plan 139 = .ok (.iaload, 1) := by decide +kernel
theorem dX12_plan_140 : decode cX12_plan 140 = .ok (.i2l, 1) := by decide +kernel
theorem dX12_plan_141 : decode cX12_plan 141 = .ok (.lconst 0, 1) := by decide +kernel
theorem dX12_plan_142 : decode cX12_plan 142 = .ok (.lconst 1, 1) := by decide +kernel
theorem dX12_plan_143 : decode cX12_plan 143 = .ok (.invokestatic 90, 3) := by decide +kernel
theorem dX12_plan_146 : decode cX12_plan 146 = .ok (.ifCond .ne 6, 3) := by decide +kernel
theorem dX12_plan_149 : decode cX12_plan 149 = .ok (.ldc 100, 2) := by decide +kernel
theorem dX12_plan_151 : decode cX12_plan 151 = .ok (.ireturn, 1) := by decide +kernel
theorem dX12_plan_152 : decode cX12_plan 152 = .ok (.iload_n 3, 1) := by decide +kernel
theorem dX12_plan_153 : decode cX12_plan 153 = .ok (.iconst 1, 1) := by decide +kernel
theorem dX12_plan_154 : decode cX12_plan 154 = .ok (.iload 5, 2) := by decide +kernel
theorem dX12_plan_156 : decode cX12_plan 156 = .ok (.ishl, 1) := by decide +kernel
theorem dX12_plan_157 : decode cX12_plan 157 = .ok (.ior, 1) := by decide +kernel
theorem dX12_plan_158 : decode cX12_plan 158 = .ok (.istore_n 3, 1) := by decide +kernel
theorem dX12_plan_159 : decode cX12_plan 159 = .ok (.iinc 4 1, 3) := by decide +kernel
theorem dX12_plan_162 : decode cX12_plan 162 = .ok (.goto (-86), 3) := by decide +kernel
theorem dX12_plan_165 : decode cX12_plan 165 = .ok (.aload_n 0, 1) := by decide +kernel
theorem dX12_plan_166 : decode cX12_plan 166 = .ok (.iconst 0, 1) := by decide +kernel
theorem dX12_plan_167 : decode cX12_plan 167 = .ok (.putfield 7, 3) := by decide +kernel
theorem dX12_plan_170 : decode cX12_plan 170 = .ok (.iconst 0, 1) := by decide +kernel
theorem dX12_plan_171 : decode cX12_plan 171 = .ok (.istore 4, 2) := by decide +kernel
theorem dX12_plan_173 : decode cX12_plan 173 = .ok (.iload 4, 2) := by decide +kernel
theorem dX12_plan_175 : decode cX12_plan 175 = .ok (.aload_n 0, 1) := by decide +kernel
theorem dX12_plan_176 : decode cX12_plan 176 = .ok (.getfield 105, 3) := by decide +kernel
theorem dX12_plan_179 : decode cX12_plan 179 = .ok (.if_icmp .ge 57, 3) := by decide +kernel
