theorem dX10_init_80 : decode cX10_init 80 = .ok (.putfield 38, 3) := by decide +kernel
theorem dX10_init_83 : decode cX10_init 83 = .ok (.aload_n 0, 1) := by decide +kernel
theorem dX10_init_84 : decode cX10_init 84 = .ok (.bipush 8, 2) := by decide +kernel
theorem dX10_init_86 : decode cX10_init 86 = .ok (.newarray .int, 2) := by decide +kernel
theorem dX10_init_88 : decode cX10_init 88 = .ok (.putfield 41, 3) := by decide +kernel
theorem dX10_init_91 : decode cX10_init 91 = .ok (.aload_n 0, 1) := by decide +kernel
theorem dX10_init_92 : decode cX10_init 92 = .ok (.bipush 8, 2) := by decide +kernel
theorem dX10_init_94 : decode cX10_init 94 = .ok (.newarray .int, 2) := by decide +kernel
theorem dX10_init_96 : decode cX10_init 96 = .ok (.putfield 44, 3) := by decide +kernel
theorem dX10_init_99 : decode cX10_init 99 = .ok (.aload_n 0, 1) := by decide +kernel
theorem dX10_init_100 : decode cX10_init 100 = .ok (.bipush 8, 2) := by decide +kernel
theorem dX10_init_102 : decode cX10_init 102 = .ok (.newarray .int, 2) := by decide +kernel
theorem dX10_init_104 : decode cX10_init 104 = .ok (.putfield 47, 3) := by decide +kernel
theorem dX10_init_107 : decode cX10_init 107 = .ok (.aload_n 0, 1) := by decide +kernel
theorem dX10_init_108 : decode cX10_init 108 = .ok (.bipush 8, 2) := by decide +kernel
theorem dX10_init_110 : decode cX10_init 110 = .ok (.newarray .int, 2) := by decide +kernel
theorem dX10_init_112 : decode cX10_init 112 = .ok (.putfield 50, 3) := by decide +kernel
theorem dX10_init_115 : decode cX10_init 115 = .ok (.aload_n 0, 1) := by decide +kernel
theorem dX10_init_116 : decode cX10_init 116 = .ok (.bipush 8, 2) := by decide +kernel
theorem dX10_init_118 : decode cX10_init 118 = .ok (.newarray .int, 2) := by decide +kernel
theorem dX10_init_120 : decode cX10_init 120 = .ok (.putfield 53, 3) := by decide +kernel
theorem dX10_init_123 : decode cX10_init 123 = .ok (.aload_n 0, 1) := by decide +kernel
theorem dX10_init_124 : decode cX10_init 124 = .ok (.bipush 8, 2) := by decide +kernel
theorem dX10_init_126 : decode cX10_init 126 = .ok (.newarray .int, 2) := by decide +kernel
theorem dX10_init_128 : decode cX10_init 128 = .ok (.putfield 56, 3) := by decide +kernel
theorem dX10_init_131 : decode cX10_init 131 = .ok (.aload_n 0, 1) := by decide +kernel
theorem dX10_init_132 : decode cX10_init 132 = .ok (.bipush 8, 2) := by decide +kernel
theorem dX10_init_134 : decode cX10_init 134 = .ok (.newarray .boolean, 2) := by decide +kernel
theorem dX10_init_136 : decode cX10_init 136 = .ok (.putfield 59, 3) := by decide +kernel
theorem dX10_init_139 : decode cX10_init 139 = .ok (.aload_n 0, 1) := by decide +kernel
theorem dX10_init_140 : decode cX10_init 140 = .ok (.bipush 8, 2) := by decide +kernel
theorem dX10_init_142 : decode cX10_init 142 = .ok (.newarray .int, 2) := by decide +kernel
theorem dX10_init_144 : decode cX10_init 144 = .ok (.putfield 63, 3) := by decide +kernel
theorem dX10_init_147 : decode cX10_init 147 = .ok (.aload_n 0, 1) := by decide +kernel
theorem dX10_init_148 : decode cX10_init 148 = .ok (.bipush 8, 2) := by decide +kernel
theorem dX10_init_150 : decode cX10_init 150 = .ok (.newarray .int, 2) := by decide +kernel
theorem dX10_init_152 : decode cX10_init 152 = .ok (.putfield 66, 3) := by decide +kernel
theorem dX10_init_155 : decode cX10_init 155 = .ok (.aload_n 0, 1) := by decide +kernel
theorem dX10_init_156 : decode cX10_init 156 = .ok (.sipush 488, 3) := by decide +kernel
theorem dX10_init_159 : decode cX10_init 159 = .ok (.newarray .int, 2) := by decide +kernel
theorem dX10_init_161 : decode cX10_init 161 = .ok (.putfield 69, 3) := by decide +kernel
theorem dX10_init_164 : decode cX10_init 164 = .ok (.aload_n 0, 1) := by decide +kernel
theorem dX10_init_165 : decode cX10_init 165 = .ok (.sipush 488, 3) := by decide +kernel
theorem dX10_init_168 : decode cX10_init 168 = .ok (.newarray .int, 2) := by decide +kernel
theorem dX10_init_170 : decode cX10_init 170 = .ok (.putfield 72, 3) := by decide +kernel
theorem dX10_init_173 : decode cX10_init 173 = .ok (.aload_n 0, 1) := by decide +kernel
theorem dX10_init_174 : decode cX10_init 174 = .ok (.sipush 488, 3) := by decide +kernel
theorem dX10_init_177 : decode cX10_init 177 = .ok (.newarray .boolean, 2) := by decide +kernel
theorem dX10_init_179 : decode cX10_init 179 = .ok (.putfield 75, 3) := by decide +kernel
theorem dX10_init_182 : decode cX10_init 182 = .ok (.aload_n 0, 1) := by decide +kernel
theorem dX10_init_183 : decode cX10_init 183 = .ok (.iconst 4, 1) := by decide +kernel
theorem dX10_init_184 : decode cX10_init 184 = .ok (.newarray .int, 2) := by decide +kernel
theorem dX10_init_186 : decode cX10_init 186 = .ok (.putfield 78, 3) := by decide +kernel
theorem dX10_init_189 : decode cX10_init 189 = .ok (.aload_n 0, 1) := by decide +kernel
theorem dX10_init_190 : decode cX10_init 190 = .ok (.iconst 4, 1) := by decide +kernel
theorem dX10_init_191 : decode cX10_init 191 = .ok (.newarray .int, 2) := by decide +kernel
theorem dX10_init_193 : decode cX10_init 193 = .ok (.putfield 81, 3) := by decide +kernel
theorem dX10_init_196 : decode cX10_init 196 = .ok (.aload_n 0, 1) := by decide +kernel
theorem dX10_init_197 : decode cX10_init 197 = .ok (.iconst 4, 1) := by decide +kernel
theorem dX10_init_198 : decode cX10_init 198 = .ok (.newarray .int, 2) := by decide +kernel
theorem dX10_init_200 : decode cX10_init 200 = .ok (.putfield 84, 3) := by decide +kernel
theorem dX10_init_203 : decode cX10_init 203 = .ok (.aload_n 0, 1) := by decide +kernel
theorem dX10_init_204 : decode cX10_init 204 = .ok (.bipush 6, 2) := by decide +kernel
theorem dX10_init_206 : decode cX10_init 206 = .ok (.newarray .int, 2) := by decide +kernel
theorem dX10_init_208 : decode cX10_init 208 = .ok (.putfield 87, 3) := by decide +kernel
theorem dX10_init_211 : decode cX10_init 211 = .ok (.aload_n 0, 1) := by decide +kernel
theorem dX10_init_212 : decode cX10_init 212 = .ok (.sipush 4608, 3) := by decide +kernel
theorem dX10_init_215 : decode cX10_init 215 = .ok (.newarray .int, 2) := by decide +kernel
theorem dX10_init_217 : decode cX10_init 217 = .ok (.putfield 90, 3) := by decide +kernel
theorem dX10_init_220 : decode cX10_init 220 = .ok (.aload_n 0, 1) := by decide +kernel
theorem dX10_init_221 : decode cX10_init 221 = .ok (.sipush 4608, 3) := by decide +kernel
theorem dX10_init_224 : decode cX10_init 224 = .ok (.newarray .int, 2) := by decide +kernel
theorem dX10_init_226 : decode cX10_init 226 = .ok (.putfield 93, 3) := by decide +kernel
theorem dX10_init_229 : decode cX10_init 229 = .ok (.aload_n 0, 1) := by decide +kernel
theorem dX10_init_230 : decode cX10_init 230 = .ok (.sipush 4608, 3) := by decide +kernel
theorem dX10_init_233 : decode cX10_init 233 = .ok (.newarray .int, 2) := by decide +kernel
theorem dX10_init_235 : decode cX10_init 235 = .ok (.putfield 96, 3) := by decide +kernel
theorem dX10_init_238 : decode cX10_init 238 = .ok (.aload_n 0, 1) := by decide +kernel
theorem dX10_init_239 : decode cX10_init 239 = .ok (.sipush 4608, 3) := by decide +kernel
theorem dX10_init_242 : decode cX10_init 242 = .ok (.newarray .int, 2) := by decide +kernel
theorem dX10_init_244 : decode cX10_init 244 = .ok (.putfield 99, 3) := by decide +kernel
theorem dX10_init_247 : decode cX10_init 247 = .ok (.aload_n 0, 1) := by decide +kernel
theorem dX10_init_248 : decode cX10_init 248 = .ok (.sipush 576, 3) := by decide +kernel
theorem dX10_init_251 : decode cX10_init 251 = .ok (.newarray .int, 2) := by decide +kernel
theorem dX10_init_253 : decode cX10_init 253 = .ok (.putfield 102, 3) := by decide +kernel
theorem dX10_init_256 : decode cX10_init 256 = .ok (.aload_n 0, 1) := by decide +kernel
theorem dX10_init_257 : decode cX10_init 257 = .ok (.bipush 8, 2) := by decide +kernel
theorem dX10_init_259 : decode cX10_init 259 = .ok (.newarray .boolean, 2) := by decide +kernel
theorem dX10_init_261 : decode cX10_init 261 = .ok (.putfield 105, 3) := by decide +kernel
theorem dX10_init_264 : decode cX10_init 264 = .ok (.iconst 0, 1) := by decide +kernel
theorem dX10_init_265 : decode cX10_init 265 = .ok (.istore_n 1, 1) := by decide +kernel
theorem dX10_init_266 : decode cX10_init 266 = .ok (.iload_n 1, 1) := by decide +kernel
theorem dX10_init_267 : decode cX10_init 267 = .ok (.bipush 8, 2) := by decide +kernel
theorem dX10_init_269 : decode cX10_init 269 = .ok (.if_icmp .ge 28, 3) := by decide +kernel
theorem dX10_init_272 : decode cX10_init 272 = .ok (.aload_n 0, 1) := by decide +kernel
theorem dX10_init_273 : decode cX10_init 273 = .ok (.getfield 20, 3) := by decide +kernel
theorem dX10_init_276 : decode cX10_init 276 = .ok (.iload_n 1, 1) := by decide +kernel
theorem dX10_init_277 : decode cX10_init 277 = .ok (.bipush 14, 2) := by decide +kernel
theorem dX10_init_279 : decode cX10_init 279 = .ok (.iload_n 1, 1) := by decide +kernel
theorem dX10_init_280 : decode cX10_init 280 = .ok (.isub, 1) := by decide +kernel
theorem dX10_init_281 : decode cX10_init 281 = .ok (.iastore, 1) := by decide +kernel
theorem dX10_init_282 : decode cX10_init 282 = .ok (.aload_n 0, 1) := by decide +kernel
theorem dX10_init_283 : decode cX10_init 283 = .ok (.getfield 23, 3) := by decide +kernel
theorem dX10_init_286 : decode cX10_init 286 = .ok (.iload_n 1, 1) := by decide +kernel
theorem dX10_init_287 : decode cX10_init 287 = .ok (.sipush 500, 3) := by decide +kernel
theorem dX10_init_290 : decode cX10_init 290 = .ok (.iastore, 1) := by decide +kernel
theorem dX10_init_291 : decode cX10_init 291 = .ok (.iinc 1 1, 3) := by decide +kernel
theorem dX10_init_294 : decode cX10_init 294 = .ok (.goto (-28), 3) := by decide +kernel
theorem dX10_init_297 : decode cX10_init 297 = .ok (.return_, 1) := by decide +kernel
theorem dX10_in_0 : decode cX10_in 0 = .ok (.iload_n 0, 1) := by decide +kernel
theorem dX10_in_1 : decode cX10_in 1 = .ok (.iload_n 1, 1) := by decide +kernel
theorem dX10_in_2 : decode cX10_in 2 = .ok (.if_icmp .lt 12, 3) := by decide +kernel
theorem dX10_in_5 : decode cX10_in 5 = .ok (.iload_n 0, 1) := by decide +kernel
theorem dX10_in_6 : decode cX10_in 6 = .ok (.iload_n 2, 1) := by decide +kernel
theorem dX10_in_7 : decode cX10_in 7 = .ok (.if_icmp .gt 7, 3) := by decide +kernel
theorem dX10_in_10 : decode cX10_in 10 = .ok (.iconst 1, 1) := by decide +kernel
theorem dX10_in_11 : decode cX10_in 11 = .ok (.goto 4, 3) := by decide +kernel
theorem dX10_in_14 : decode cX10_in 14 = .ok (.iconst 0, 1) := by decide +kernel
theorem dX10_in_15 : decode cX10_in 15 = .ok (.ireturn, 1) := by decide +kernel
set_option maxRecDepth 20000 in
theorem ggX10_isCell_X10_in : GoodIn wsX10_isCell wsX10_in := goodIn_r _ [6] (by decide +kernel) (by decide +kernel)
set_option maxRecDepth 20000 in
theorem gX10_isCell_X10_in : GoodIn wsX10_isCell (va_wsS RX10 108 yX10_in wsX10_in) := goodIn_app (goodIn_of _ (by decide +kernel)) ggX10_isCell_X10_in
theorem dX10_isCell_0 : decode cX10_isCell 0 = .ok (.iload_n 1, 1) := by decide +kernel
theorem dX10_isCell_1 : decode cX10_isCell 1 = .ok (.iconst 0, 1) := by decide +kernel
theorem dX10_isCell_2 : decode cX10_isCell 2 = .ok (.aload_n 0, 1) := by decide +kernel
theorem dX10_isCell_3 : decode cX10_isCell 3 = .ok (.getfield 7, 3) := by decide +kernel
theorem dX10_isCell_6 : decode cX10_isCell 6 = .ok (.iconst 1, 1) := by decide +kernel
theorem dX10_isCell_7 : decode cX10_isCell 7 = .ok (.isub, 1) := by decide +kernel
theorem dX10_isCell_8 : decode cX10_isCell 8 = .ok (.invokestatic 108, 3) := by decide +kernel
theorem dX10_isCell_11 : decode cX10_isCell 11 = .ok (.ifCond .eq 21, 3) := by decide +kernel
theorem dX10_isCell_14 : decode cX10_isCell 14 = .ok (.iload_n 2, 1) := by decide +kernel
theorem dX10_isCell_15 : decode cX10_isCell 15 = .ok (.iconst 0, 1) := by decide +kernel
theorem dX10_isCell_16 : decode cX10_isCell 16 = .ok (.aload_n 0, 1) := by decide +kernel
theorem dX10_isCell_17 : decode cX10_isCell 17 = .ok (.getfield 13, 3) := by decide +kernel
theorem dX10_isCell_20 : decode cX10_isCell 20 = .ok (.iconst 1, 1) := by decide +kernel
theorem dX10_isCell_21 : decode cX10_isCell 21 = .ok (.isub, 1) := by decide +kernel
theorem dX10_isCell_22 : decode cX10_isCell 22 = .ok (.invokestatic 108, 3) := by decide +kernel
theorem dX10_isCell_25 : decode cX10_isCell 25 = .ok (.ifCond .eq 7, 3) := by decide +kernel
theorem dX10_isCell_28 : decode cX10_isCell 28 = .ok (.iconst 1, 1) := by decide +kernel
theorem dX10_isCell_29 : decode cX10_isCell 29 = .ok (.goto 4, 3) := by decide +kernel
theorem dX10_isCell_32 : decode cX10_isCell 32 = .ok (.iconst 0, 1) := by decide +kernel
theorem dX10_isCell_33 : decode cX10_isCell 33 = .ok (.ireturn, 1) := by decide +kernel
set_option maxRecDepth 20000 in
theorem ggX10_isFlight_X10_in : GoodIn wsX10_isFlight wsX10_in := goodIn_r _ [5] (by decide +kernel) (by decide +kernel)
set_option maxRecDepth 20000 in
theorem gX10_isFlight_X10_in : GoodIn wsX10_isFlight (va_wsS RX10 108 yX10_in wsX10_in) := goodIn_app (goodIn_of _ (by decide +kernel)) ggX10_isFlight_X10_in
theorem dX10_isFlight_0 : decode cX10_isFlight 0 = .ok (.iload_n 1, 1) := by decide +kernel
theorem dX10_isFlight_1 : decode cX10_isFlight 1 = .ok (.iconst 0, 1) := by decide +kernel
theorem dX10_isFlight_2 : decode cX10_isFlight 2 = .ok (.aload_n 0, 1) := by decide +kernel
theorem dX10_isFlight_3 : decode cX10_isFlight 3 = .ok (.getfield 112, 3) := by decide +kernel
theorem dX10_isFlight_6 : decode cX10_isFlight 6 = .ok (.iconst 1, 1) := by decide +kernel
theorem dX10_isFlight_7 : decode cX10_isFlight 7 = .ok (.isub, 1) := by decide +kernel
theorem dX10_isFlight_8 : decode cX10_isFlight 8 = .ok (.invokestatic 108, 3) := by decide +kernel
theorem dX10_isFlight_11 : decode cX10_isFlight 11 = .ok (.ireturn, 1) := by decide +kernel
set_option maxRecDepth 20000 in
theorem ggX10_land_X10_in : GoodIn wsX10_land wsX10_in := goodIn_r _ [9] (by decide +kernel) (by decide +kernel)
set_option maxRecDepth 20000 in
theorem gX10_land_X10_in : GoodIn wsX10_land (va_wsS RX10 108 yX10_in wsX10_in) := goodIn_app (goodIn_of _ (by decide +kernel)) ggX10_land_X10_in
theorem dX10_land_0 : decode cX10_land 0 = .ok (.iload_n 1, 1) := by decide +kernel
theorem dX10_land_1 : decode cX10_land 1 = .ok (.iconst 4, 1) := by decide +kernel
theorem dX10_land_2 : decode cX10_land 2 = .ok (.bipush 24, 2) := by decide +kernel
theorem dX10_land_4 : decode cX10_land 4 = .ok (.invokestatic 108, 3) := by decide +kernel
theorem dX10_land_7 : decode cX10_land 7 = .ok (.ifCond .eq 13, 3) := by decide +kernel
theorem dX10_land_10 : decode cX10_land 10 = .ok (.iload_n 2, 1) := by decide +kernel
theorem dX10_land_11 : decode cX10_land 11 = .ok (.iconst 4, 1) := by decide +kernel
theorem dX10_land_12 : decode cX10_land 12 = .ok (.bipush 24, 2) := by decide +kernel
theorem dX10_land_14 : decode cX10_land 14 = .ok (.invokestatic 108, 3) := by decide +kernel
theorem dX10_land_17 : decode cX10_land 17 = .ok (.ifCond .ne 6, 3) := by decide +kernel
theorem dX10_land_20 : decode cX10_land 20 = .ok (.bipush (-2), 2) := by decide +kernel
theorem dX10_land_22 : decode cX10_land 22 = .ok (.ireturn, 1) := by decide +kernel
theorem dX10_land_23 : decode cX10_land 23 = .ok (.aload_n 0, 1) := by decide +kernel
theorem dX10_land_24 : decode cX10_land 24 = .ok (.iload_n 1, 1) := by decide +kernel
theorem dX10_land_25 : decode cX10_land 25 = .ok (.putfield 7, 3) := by decide +kernel
theorem dX10_land_28 : decode cX10_land 28 = .ok (.aload_n 0, 1) := by decide +kernel
theorem dX10_land_29 : decode cX10_land 29 = .ok (.iload_n 2, 1) := by decide +kernel
theorem dX10_land_30 : decode cX10_land 30 = .ok (.putfield 13, 3) := by decide +kernel
theorem dX10_land_33 : decode cX10_land 33 = .ok (.iconst 0, 1) := by decide +kernel
theorem dX10_land_34 : decode cX10_land 34 = .ok (.istore_n 3, 1) := by decide +kernel
theorem dX10_land_35 : decode cX10_land 35 = .ok (.iload_n 3, 1) := by decide +kernel
theorem dX10_land_36 : decode cX10_land 36 = .ok (.sipush 576, 3) := by decide +kernel
theorem dX10_land_39 : decode cX10_land 39 = .ok (.if_icmp .ge 16, 3) := by decide +kernel
theorem dX10_land_42 : decode cX10_land 42 = .ok (.aload_n 0, 1) := by decide +kernel
theorem dX10_land_43 : decode cX10_land 43 = .ok (.getfield 16, 3) := by decide +kernel
theorem dX10_land_46 : decode cX10_land 46 = .ok (.iload_n 3, 1) := by decide +kernel
theorem dX10_land_47 : decode cX10_land 47 = .ok (.iconst 0, 1) := by decide +kernel
theorem dX10_land_48 : decode cX10_land 48 = .ok (.iastore, 1) := by decide +kernel
theorem dX10_land_49 : decode cX10_land 49 = .ok (.iinc 3 1, 3) := by decide +kernel
theorem dX10_land_52 : decode cX10_land 52 = .ok (.goto (-17), 3) := by decide +kernel
theorem dX10_land_55 : decode cX10_land 55 = .ok (.aload_n 0, 1) := by decide +kernel
theorem dX10_land_56 : decode cX10_land 56 = .ok (.iconst 0, 1) := by decide +kernel
theorem dX10_land_57 : decode cX10_land 57 = .ok (.putfield 112, 3) := by decide +kernel
theorem dX10_land_60 : decode cX10_land 60 = .ok (.aload_n 0, 1) := by decide +kernel
theorem dX10_land_61 : decode cX10_land 61 = .ok (.iconst 0, 1) := by decide +kernel
theorem dX10_land_62 : decode cX10_land 62 = .ok (.putfield 115, 3) := by decide +kernel
theorem dX10_land_65 : decode cX10_land 65 = .ok (.iconst 1, 1) := by decide +kernel
theorem dX10_land_66 : decode cX10_land 66 = .ok (.ireturn, 1) := by decide +kernel
set_option maxRecDepth 20000 in
theorem ggX10_cell_X10_isCell : GoodIn wsX10_cell wsX10_isCell := goodIn_r _ [9, 10, 11, 12, 13, 8, 14, 15, 16, 17, 18, 19, 20, 21, 22, 23, 24, 25, 26, 27, 28, 29, 30, 31, 32, 33, 34, 35, 36, 37, 38, 39, 40, 41, 42, 43, 44, 45, 46, 47, 48, 49, 50, 51, 52, 53, 54, 55, 56, 57] (by decide +kernel) (by decide +kernel)
set_option maxRecDepth 20000 in
theorem gX10_cell_X10_isCell : GoodIn wsX10_cell (wsV RX10 118 RX10 yX10_isCell wsX10_isCell) := goodIn_app (goodIn_of _ (by decide +kernel)) ggX10_cell_X10_isCell
set_option maxRecDepth 20000 in
theorem ggX10_cell_X10_in : GoodIn wsX10_cell wsX10_in := goodIn_r _ [14] (by decide +kernel) (by decide +kernel)
set_option maxRecDepth 20000 in
theorem gX10_cell_X10_in : GoodIn wsX10_cell (va_wsS RX10 108 yX10_in wsX10_in) := goodIn_app (goodIn_of _ (by decide +kernel)) ggX10_cell_X10_in
theorem dX10_cell_0 : decode cX10_cell 0 = .ok (.aload_n 0, 1) := by decide +kernel
theorem dX10_cell_1 : decode cX10_cell 1 = .ok (.iload_n 1, 1) := by decide +kernel
theorem dX10_cell_2 : decode cX10_cell 2 = .ok (.iload_n 2, 1) := by decide +kernel
theorem dX10_cell_3 : decode cX10_cell 3 = .ok (.invokevirtual 118, 3) := by decide +kernel
theorem dX10_cell_6 : decode cX10_cell 6 = .ok (.ifCond .eq 12, 3) := by decide +kernel
theorem dX10_cell_9 : decode cX10_cell 9 = .ok (.iload_n 3, 1) := by decide +kernel
theorem dX10_cell_10 : decode cX10_cell 10 = .ok (.iconst 0, 1) := by decide +kernel
theorem dX10_cell_11 : decode cX10_cell 11 = .ok (.iconst 2, 1) := by decide +kernel
theorem dX10_cell_12 : decode cX10_cell 12 = .ok (.invokestatic 108, 3) := by decide +kernel
theorem dX10_cell_15 : decode cX10_cell 15 = .ok (.ifCond .ne 6, 3) := by decide +kernel
theorem dX10_cell_18 : decode cX10_cell 18 = .ok (.bipush (-2), 2) := by decide +kernel
theorem dX10_cell_20 : decode cX10_cell 20 = .ok (.ireturn, 1) := by decide +kernel
theorem dX10_cell_21 : decode cX10_cell 21 = .ok (.iconst 0, 1) := by decide +kernel
theorem dX10_cell_22 : decode cX10_cell 22 = .ok (.istore 4, 2) := by decide +kernel
theorem dX10_cell_24 : decode cX10_cell 24 = .ok (.iload 4, 2) := by decide +kernel
theorem dX10_cell_26 : decode cX10_cell 26 = .ok (.aload_n 0, 1) := by decide +kernel
theorem dX10_cell_27 : decode cX10_cell 27 = .ok (.getfield 115, 3) := by decide +kernel
theorem dX10_cell_30 : decode cX10_cell 30 = .ok (.if_icmp .ge 39, 3) := by decide +kernel
theorem dX10_cell_33 : decode cX10_cell 33 = .ok (.iload_n 3, 1) := by decide +kernel
theorem dX10_cell_34 : decode cX10_cell 34 = .ok (.iconst 1, 1) := by decide +kernel
theorem dX10_cell_35 : decode cX10_cell 35 = .ok (.if_icmp .ne 34, 3) := by decide +kernel
theorem dX10_cell_38 : decode cX10_cell 38 = .ok (.aload_n 0, 1) := by decide +kernel
theorem dX10_cell_39 : decode cX10_cell 39 = .ok (.getfield 78, 3) := by decide +kernel
theorem dX10_cell_42 : decode cX10_cell 42 = .ok (.iload 4, 2) := by decide +kernel
theorem dX10_cell_44 : decode cX10_cell 44 = .ok (.iaload, 1) := by decide +kernel
theorem dX10_cell_45 : decode cX10_cell 45 = .ok (.iload_n 1, 1) := by decide +kernel
theorem dX10_cell_46 : decode cX10_cell 46 = .ok (.if_icmp .ne 17, 3) := by decide +kernel
theorem dX10_cell_49 : decode cX10_cell 49 = .ok (.aload_n 0, 1) := by decide +kernel
theorem dX10_cell_50 : decode cX10_cell 50 = .ok (.getfield 81, 3) := by decide +kernel
theorem dX10_cell_53 : decode cX10_cell 53 = .ok (.iload 4, 2) := by decide +kernel
theorem dX10_cell_55 : decode cX10_cell 55 = .ok (.iaload, 1) := by decide +kernel
theorem dX10_cell_56 : decode cX10_cell 56 = .ok (.iload_n 2, 1) := by decide +kernel
theorem dX10_cell_57 : decode cX10_cell 57 = .ok (.if_icmp .ne 6, 3) := by decide +kernel
theorem dX10_cell_60 : decode cX10_cell 60 = .ok (.bipush (-3), 2) := by decide +kernel
theorem dX10_cell_62 : decode cX10_cell 62 = .ok (.ireturn, 1) := by decide +kernel
theorem dX10_cell_63 : decode cX10_cell 63 = .ok (.iinc 4 1, 3) := by decide +kernel
theorem dX10_cell_66 : decode cX10_cell 66 = .ok (.goto (-42), 3) := by decide +kernel
theorem dX10_cell_69 : decode cX10_cell 69 = .ok (.aload_n 0, 1) := by decide +kernel
theorem dX10_cell_70 : decode cX10_cell 70 = .ok (.getfield 16, 3) := by decide +kernel
theorem dX10_cell_73 : decode cX10_cell 73 = .ok (.bipush 24, 2) := by decide +kernel
theorem dX10_cell_75 : decode cX10_cell 75 = .ok (.iload_n 2, 1) := by decide +kernel
theorem dX10_cell_76 : decode cX10_cell 76 = .ok (.imul, 1) := by decide +kernel
theorem dX10_cell_77 : decode cX10_cell 77 = .ok (.iload_n 1, 1) := by decide +kernel
theorem dX10_cell_78 : decode cX10_cell 78 = .ok (.iadd, 1) := by decide +kernel
theorem dX10_cell_79 : decode cX10_cell 79 = .ok (.iaload, 1) := by decide +kernel
theorem dX10_cell_80 : decode cX10_cell 80 = .ok (.istore 4, 2) := by decide +kernel
theorem dX10_cell_82 : decode cX10_cell 82 = .ok (.aload_n 0, 1) := by decide +kernel
theorem dX10_cell_83 : decode cX10_cell 83 = .ok (.getfield 16, 3) := by decide +kernel
theorem dX10_cell_86 : decode cX10_cell 86 = .ok (.bipush 24, 2) := by decide +kernel
theorem dX10_cell_88 : decode cX10_cell 88 = .ok (.iload_n 2, 1) := by decide +kernel
theorem dX10_cell_89 : decode cX10_cell 89 = .ok (.imul, 1) := by decide +kernel
theorem dX10_cell_90 : decode cX10_cell 90 = .ok (.iload_n 1, 1) := by decide +kernel
theorem dX10_cell_91 : decode cX10_cell 91 = .ok (.iadd, 1) := by decide +kernel
theorem dX10_cell_92 : decode cX10_cell 92 = .ok (.iload_n 3, 1) := by decide +kernel
theorem dX10_cell_93 : decode cX10_cell 93 = .ok (.iastore, 1) := by decide +kernel
theorem dX10_cell_94 : decode cX10_cell 94 = .ok (.iload 4, 2) := by decide +kernel
theorem dX10_cell_96 : decode cX10_cell 96 = .ok (.ireturn, 1) := by decide +kernel
set_option maxRecDepth 20000 in
theorem ggX10_level_X10_in : GoodIn wsX10_level wsX10_in := goodIn_r _ [6] (by decide +kernel) (by decide +kernel)
set_option maxRecDepth 20000 in
theorem gX10_level_X10_in : GoodIn wsX10_level (va_wsS RX10 108 yX10_in wsX10_in) := goodIn_app (goodIn_of _ (by decide +kernel)) ggX10_level_X10_in
theorem dX10_level_0 : decode cX10_level 0 = .ok (.iload_n 1, 1) := by decide +kernel
theorem dX10_level_1 : decode cX10_level 1 = .ok (.iconst 0, 1) := by decide +kernel
theorem dX10_level_2 : decode cX10_level 2 = .ok (.bipush 7, 2) := by decide +kernel
theorem dX10_level_4 : decode cX10_level 4 = .ok (.invokestatic 108, 3) := by decide +kernel
theorem dX10_level_7 : decode cX10_level 7 = .ok (.ifCond .eq 24, 3) := by decide +kernel
theorem dX10_level_10 : decode cX10_level 10 = .ok (.iload_n 2, 1) := by decide +kernel
theorem dX10_level_11 : decode cX10_level 11 = .ok (.iconst 0, 1) := by decide +kernel
theorem dX10_level_12 : decode cX10_level 12 = .ok (.bipush 50, 2) := by decide +kernel
theorem dX10_level_14 : decode cX10_level 14 = .ok (.invokestatic 108, 3) := by decide +kernel
theorem dX10_level_17 : decode cX10_level 17 = .ok (.ifCond .eq 14, 3) := by decide +kernel
theorem dX10_level_20 : decode cX10_level 20 = .ok (.iload_n 3, 1) := by decide +kernel
theorem dX10_level_21 : decode cX10_level 21 = .ok (.iconst 0, 1) := by decide +kernel
theorem dX10_level_22 : decode cX10_level 22 = .ok (.sipush 500, 3) := by decide +kernel
theorem dX10_level_25 : decode cX10_level 25 = .ok (.invokestatic 108, 3) := by decide +kernel
theorem dX10_level_28 : decode cX10_level 28 = .ok (.ifCond .ne 6, 3) := by decide +kernel
theorem dX10_level_31 : decode cX10_level 31 = .ok (.bipush (-2), 2) := by decide +kernel
theorem dX10_level_33 : decode cX10_level 33 = .ok (.ireturn, 1) := by decide +kernel
theorem dX10_level_34 : decode cX10_level 34 = .ok (.aload_n 0, 1) := by decide +kernel
theorem dX10_level_35 : decode cX10_level 35 = .ok (.getfield 20, 3) := by decide +kernel
theorem dX10_level_38 : decode cX10_level 38 = .ok (.iload_n 1, 1) := by decide +kernel
theorem dX10_level_39 : decode cX10_level 39 = .ok (.iload_n 2, 1) := by decide +kernel
theorem dX10_level_40 : decode cX10_level 40 = .ok (.iastore, 1) := by decide +kernel
theorem dX10_level_41 : decode cX10_level 41 = .ok (.aload_n 0, 1) := by decide +kernel
theorem dX10_level_42 : decode cX10_level 42 = .ok (.getfield 23, 3) := by decide +kernel
theorem dX10_level_45 : decode cX10_level 45 = .ok (.iload_n 1, 1) := by decide +kernel
theorem dX10_level_46 : decode cX10_level 46 = .ok (.iload_n 3, 1) := by decide +kernel
theorem dX10_level_47 : decode cX10_level 47 = .ok (.iastore, 1) := by decide +kernel
theorem dX10_level_48 : decode cX10_level 48 = .ok (.iconst 1, 1) := by decide +kernel
theorem dX10_level_49 : decode cX10_level 49 = .ok (.ireturn, 1) := by decide +kernel
set_option maxRecDepth 20000 in
theorem ggX10_warmth_X10_in : GoodIn wsX10_warmth wsX10_in := goodIn_r _ [5] (by decide +kernel) (by decide +kernel)
set_option maxRecDepth 20000 in
theorem gX10_warmth_X10_in : GoodIn wsX10_warmth (va_wsS RX10 108 yX10_in wsX10_in) := goodIn_app (goodIn_of _ (by decide +kernel)) ggX10_warmth_X10_in
theorem dX10_warmth_0 : decode cX10_warmth 0 = .ok (.iload_n 1, 1) := by decide +kernel
theorem dX10_warmth_1 : decode cX10_warmth 1 = .ok (.iconst 0, 1) := by decide +kernel
theorem dX10_warmth_2 : decode cX10_warmth 2 = .ok (.bipush 23, 2) := by decide +kernel
theorem dX10_warmth_4 : decode cX10_warmth 4 = .ok (.invokestatic 108, 3) := by decide +kernel
theorem dX10_warmth_7 : decode cX10_warmth 7 = .ok (.ifCond .eq 14, 3) := by decide +kernel
theorem dX10_warmth_10 : decode cX10_warmth 10 = .ok (.iload_n 2, 1) := by decide +kernel
theorem dX10_warmth_11 : decode cX10_warmth 11 = .ok (.bipush (-20), 2) := by decide +kernel
theorem dX10_warmth_13 : decode cX10_warmth 13 = .ok (.bipush 20, 2) := by decide +kernel
theorem dX10_warmth_15 : decode cX10_warmth 15 = .ok (.invokestatic 108, 3) := by decide +kernel
theorem dX10_warmth_18 : decode cX10_warmth 18 = .ok (.ifCond .ne 7, 3) := by decide +kernel
theorem dX10_warmth_21 : decode cX10_warmth 21 = .ok (.sipush (-1000), 3) := by decide +kernel
theorem dX10_warmth_24 : decode cX10_warmth 24 = .ok (.ireturn, 1) := by decide +kernel
theorem dX10_warmth_25 : decode cX10_warmth 25 = .ok (.aload_n 0, 1) := by decide +kernel
theorem dX10_warmth_26 : decode cX10_warmth 26 = .ok (.getfield 26, 3) := by decide +kernel
theorem dX10_warmth_29 : decode cX10_warmth 29 = .ok (.iload_n 1, 1) := by decide +kernel
theorem dX10_warmth_30 : decode cX10_warmth 30 = .ok (.iaload, 1) := by decide +kernel
theorem dX10_warmth_31 : decode cX10_warmth 31 = .ok (.istore_n 3, 1) := by decide +kernel
theorem dX10_warmth_32 : decode cX10_warmth 32 = .ok (.aload_n 0, 1) := by decide +kernel
theorem dX10_warmth_33 : decode cX10_warmth 33 = .ok (.getfield 26, 3) := by decide +kernel
theorem dX10_warmth_36 : decode cX10_warmth 36 = .ok (.iload_n 1, 1) := by decide +kernel
theorem dX10_warmth_37 : decode cX10_warmth 37 = .ok (.iload_n 2, 1) := by decide +kernel
theorem dX10_warmth_38 : decode cX10_warmth 38 = .ok (.iastore, 1) := by decide +kernel
theorem dX10_warmth_39 : decode cX10_warmth 39 = .ok (.iload_n 3, 1) := by decide +kernel
theorem dX10_warmth_40 : decode cX10_warmth 40 = .ok (.ireturn, 1) := by decide +kernel
set_option maxRecDepth 20000 in
theorem ggX10_wind_X10_in : GoodIn wsX10_wind wsX10_in := goodIn_r _ [6] (by decide +kernel) (by decide +kernel)
set_option maxRecDepth 20000 in
theorem gX10_wind_X10_in : GoodIn wsX10_wind (va_wsS RX10 108 yX10_in wsX10_in) := goodIn_app (goodIn_of _ (by decide +kernel)) ggX10_wind_X10_in
set_option maxRecDepth 20000 in
theorem ggX10_wind_X10_windAt : GoodIn wsX10_wind wsX10_windAt := goodIn_r _ [9] (by decide +kernel) (by decide +kernel)
set_option maxRecDepth 20000 in
theorem gX10_wind_X10_windAt : GoodIn wsX10_wind (va_wsS RX10 122 yX10_windAt wsX10_windAt) := goodIn_app (goodIn_of _ (by decide +kernel)) ggX10_wind_X10_windAt
theorem dX10_wind_0 : decode cX10_wind 0 = .ok (.iload_n 2, 1) := by decide +kernel
theorem dX10_wind_1 : decode cX10_wind 1 = .ok (.iconst 1, 1) := by decide +kernel
theorem dX10_wind_2 : decode cX10_wind 2 = .ok (.bipush 7, 2) := by decide +kernel
theorem dX10_wind_4 : decode cX10_wind 4 = .ok (.invokestatic 108, 3) := by decide +kernel
theorem dX10_wind_7 : decode cX10_wind 7 = .ok (.ifCond .eq 46, 3) := by decide +kernel
theorem dX10_wind_10 : decode cX10_wind 10 = .ok (.iload_n 3, 1) := by decide +kernel
theorem dX10_wind_11 : decode cX10_wind 11 = .ok (.iconst 0, 1) := by decide +kernel
theorem dX10_wind_12 : decode cX10_wind 12 = .ok (.bipush 23, 2) := by decide +kernel
theorem dX10_wind_14 : decode cX10_wind 14 = .ok (.invokestatic 108, 3) := by decide +kernel
theorem dX10_wind_17 : decode cX10_wind 17 = .ok (.ifCond .eq 36, 3) := by decide +kernel
theorem dX10_wind_20 : decode cX10_wind 20 = .ok (.iload 4, 2) := by decide +kernel
theorem dX10_wind_22 : decode cX10_wind 22 = .ok (.iload_n 3, 1) := by decide +kernel
theorem dX10_wind_23 : decode cX10_wind 23 = .ok (.bipush 23, 2) := by decide +kernel
theorem dX10_wind_25 : decode cX10_wind 25 = .ok (.invokestatic 108, 3) := by decide +kernel
theorem dX10_wind_28 : decode cX10_wind 28 = .ok (.ifCond .eq 25, 3) := by decide +kernel
theorem dX10_wind_31 : decode cX10_wind 31 = .ok (.iload 5, 2) := by decide +kernel
theorem dX10_wind_33 : decode cX10_wind 33 = .ok (.bipush (-2), 2) := by decide +kernel
theorem dX10_wind_35 : decode cX10_wind 35 = .ok (.iconst 2, 1) := by decide +kernel
theorem dX10_wind_36 : decode cX10_wind 36 = .ok (.invokestatic 108, 3) := by decide +kernel
theorem dX10_wind_39 : decode cX10_wind 39 = .ok (.ifCond .eq 14, 3) := by decide +kernel
theorem dX10_wind_42 : decode cX10_wind 42 = .ok (.iload 6, 2) := by decide +kernel
theorem dX10_wind_44 : decode cX10_wind 44 = .ok (.bipush (-2), 2) := by decide +kernel
theorem dX10_wind_46 : decode cX10_wind 46 = .ok (.iconst 2, 1) := by decide +kernel
theorem dX10_wind_47 : decode cX10_wind 47 = .ok (.invokestatic 108, 3) := by decide +kernel
theorem dX10_wind_50 : decode cX10_wind 50 = .ok (.ifCond .ne 6, 3) := by decide +kernel
theorem dX10_wind_53 : decode cX10_wind 53 = .ok (.bipush (-2), 2) := by decide +kernel
theorem dX10_wind_55 : decode cX10_wind 55 = .ok (.ireturn, 1) := by decide +kernel
theorem dX10_wind_56 : decode cX10_wind 56 = .ok (.iload_n 3, 1) := by decide +kernel
theorem dX10_wind_57 : decode cX10_wind 57 = .ok (.istore 7, 2) := by decide +kernel
theorem dX10_wind_59 : decode cX10_wind 59 = .ok (.iload 7, 2) := by decide +kernel
theorem dX10_wind_61 : decode cX10_wind 61 = .ok (.iload 4, 2) := by decide +kernel
theorem dX10_wind_63 : decode cX10_wind 63 = .ok (.if_icmp .gt 53, 3) := by decide +kernel
theorem dX10_wind_66 : decode cX10_wind 66 = .ok (.aload_n 0, 1) := by decide +kernel
theorem dX10_wind_67 : decode cX10_wind 67 = .ok (.getfield 29, 3) := by decide +kernel
theorem dX10_wind_70 : decode cX10_wind 70 = .ok (.iload_n 1, 1) := by decide +kernel
theorem dX10_wind_71 : decode cX10_wind 71 = .ok (.ifCond .eq 7, 3) := by decide +kernel
theorem dX10_wind_74 : decode cX10_wind 74 = .ok (.iconst 0, 1) := by decide +kernel
theorem dX10_wind_75 : decode cX10_wind 75 = .ok (.goto 4, 3) := by decide +kernel
theorem dX10_wind_78 : decode cX10_wind 78 = .ok (.iconst 1, 1) := by decide +kernel
theorem dX10_wind_79 : decode cX10_wind 79 = .ok (.iload_n 2, 1) := by decide +kernel
theorem dX10_wind_80 : decode cX10_wind 80 = .ok (.iload 7, 2) := by decide +kernel
theorem dX10_wind_82 : decode cX10_wind 82 = .ok (.invokestatic 122, 3) := by decide +kernel
theorem dX10_wind_85 : decode cX10_wind 85 = .ok (.iload 5, 2) := by decide +kernel
theorem dX10_wind_87 : decode cX10_wind 87 = .ok (.iastore, 1) := by decide +kernel
theorem dX10_wind_88 : decode cX10_wind 88 = .ok (.aload_n 0, 1) := by decide +kernel
theorem dX10_wind_89 : decode cX10_wind 89 = .ok (.getfield 32, 3) := by decide +kernel
theorem dX10_wind_92 : decode cX10_wind 92 = .ok (.iload_n 1, 1) := by decide +kernel
theorem dX10_wind_93 : decode cX10_wind 93 = .ok (.ifCond .eq 7, 3) := by decide +kernel
theorem dX10_wind_96 : decode cX10_wind 96 = .ok (.iconst 0, 1) := by decide +kernel
theorem dX10_wind_97 : decode cX10_wind 97 = .ok (.goto 4, 3) := by decide +kernel
theorem dX10_wind_100 : decode cX10_wind 100 = .ok (.iconst 1, 1) := by decide +kernel
theorem dX10_wind_101 : decode cX10_wind 101 = .ok (.iload_n 2, 1) := by decide +kernel
theorem dX10_wind_102 : decode cX10_wind 102 = .ok (.iload 7, 2) := by decide +kernel
theorem dX10_wind_104 : decode cX10_wind 104 = .ok (.invokestatic 122, 3) := by decide +kernel
theorem dX10_wind_107 : decode cX10_wind 107 = .ok (.iload 6, 2) := by decide +kernel
theorem dX10_wind_109 : decode cX10_wind 109 = .ok (.iastore, 1) := by decide +kernel
theorem dX10_wind_110 : decode cX10_wind 110 = .ok (.iinc 7 1, 3) := by decide +kernel
theorem dX10_wind_113 : decode cX10_wind 113 = .ok (.goto (-54), 3) := by decide +kernel
theorem dX10_wind_116 : decode cX10_wind 116 = .ok (.iconst 1, 1) := by decide +kernel
theorem dX10_wind_117 : decode cX10_wind 117 = .ok (.ireturn, 1) := by decide +kernel
theorem dX10_windAt_0 : decode cX10_windAt 0 = .ok (.sipush 192, 3) := by decide +kernel
theorem dX10_windAt_3 : decode cX10_windAt 3 = .ok (.iload_n 0, 1) := by decide +kernel
theorem dX10_windAt_4 : decode cX10_windAt 4 = .ok (.imul, 1) := by decide +kernel
theorem dX10_windAt_5 : decode cX10_windAt 5 = .ok (.bipush 24, 2) := by decide +kernel
theorem dX10_windAt_7 : decode cX10_windAt 7 = .ok (.iload_n 1, 1) := by decide +kernel
theorem dX10_windAt_8 : decode cX10_windAt 8 = .ok (.imul, 1) := by decide +kernel
theorem dX10_windAt_9 : decode cX10_windAt 9 = .ok (.iadd, 1) := by decide +kernel
theorem dX10_windAt_10 : decode cX10_windAt 10 = .ok (.iload_n 2, 1) := by decide +kernel
theorem dX10_windAt_11 : decode cX10_windAt 11 = .ok (.iadd, 1) := by decide +kernel
theorem dX10_windAt_12 : decode cX10_windAt 12 = .ok (.ireturn, 1) := by decide +kernel
set_option maxRecDepth 20000 in
theorem ggX10_tick_X10_led : GoodIn wsX10_tick wsX10_led := goodIn_r _ [14, 15, 16, 17, 18, 13, 19, 20, 21, 22, 23, 24, 25, 26, 27, 28, 29, 30, 31, 32, 33, 34, 35, 36, 37, 38, 39, 40, 41, 42, 43, 44, 45, 46, 47, 48, 49, 50, 51, 52, 53, 54, 55, 56, 57, 58, 59, 60, 61, 62, 63, 64, 65, 66, 67, 68, 69, 70, 71] (by decide +kernel) (by decide +kernel)
set_option maxRecDepth 20000 in
theorem gX10_tick_X10_led : GoodIn wsX10_tick (wsV RX10 144 RX10 yX10_led wsX10_led) := goodIn_app (goodIn_of _ (by decide +kernel)) ggX10_tick_X10_led
theorem dX10_tick_0 : decode cX10_tick 0 = .ok (.iload 4, 2) := by decide +kernel
theorem dX10_tick_2 : decode cX10_tick 2 = .ok (.iconst 1, 1) := by decide +kernel
theorem dX10_tick_3 : decode cX10_tick 3 = .ok (.if_icmp .ne 30, 3) := by decide +kernel
theorem dX10_tick_6 : decode cX10_tick 6 = .ok (.aload_n 0, 1) := by decide +kernel
theorem dX10_tick_7 : decode cX10_tick 7 = .ok (.aload_n 0, 1) := by decide +kernel
theorem dX10_tick_8 : decode cX10_tick 8 = .ok (.getfield 126, 3) := by decide +kernel
theorem dX10_tick_11 : decode cX10_tick 11 = .ok (.iload 5, 2) := by decide +kernel
theorem dX10_tick_13 : decode cX10_tick 13 = .ok (.if_icmp .le 13, 3) := by decide +kernel
theorem dX10_tick_16 : decode cX10_tick 16 = .ok (.aload_n 0, 1) := by decide +kernel
theorem dX10_tick_17 : decode cX10_tick 17 = .ok (.getfield 126, 3) := by decide +kernel
theorem dX10_tick_20 : decode cX10_tick 20 = .ok (.iload 5, 2) := by decide +kernel
theorem dX10_tick_22 : decode cX10_tick 22 = .ok (.isub, 1) := by decide +kernel
theorem dX10_tick_23 : decode cX10_tick 23 = .ok (.goto 4, 3) := by decide +kernel
theorem dX10_tick_26 : decode cX10_tick 26 = .ok (.iconst 0, 1) := by decide +kernel
theorem dX10_tick_27 : decode cX10_tick 27 = .ok (.putfield 126, 3) := by decide +kernel
theorem dX10_tick_30 : decode cX10_tick 30 = .ok (.goto 33, 3) := by decide +kernel
theorem dX10_tick_33 : decode cX10_tick 33 = .ok (.iload 4, 2) := by decide +kernel
theorem dX10_tick_35 : decode cX10_tick 35 = .ok (.iconst 2, 1) := by decide +kernel
theorem dX10_tick_36 : decode cX10_tick 36 = .ok (.if_icmp .ne 27, 3) := by decide +kernel
theorem dX10_tick_39 : decode cX10_tick 39 = .ok (.aload_n 0, 1) := by decide +kernel
theorem dX10_tick_40 : decode cX10_tick 40 = .ok (.aload_n 0, 1) := by decide +kernel
theorem dX10_tick_41 : decode cX10_tick 41 = .ok (.getfield 129, 3) := by decide +kernel
theorem dX10_tick_44 : decode cX10_tick 44 = .ok (.iload 5, 2) := by decide +kernel
theorem dX10_tick_46 : decode cX10_tick 46 = .ok (.if_icmp .le 13, 3) := by decide +kernel
theorem dX10_tick_49 : decode cX10_tick 49 = .ok (.aload_n 0, 1) := by decide +kernel
theorem dX10_tick_50 : decode cX10_tick 50 = .ok (.getfield 129, 3) := by decide +kernel
theorem dX10_tick_53 : decode cX10_tick 53 = .ok (.iload 5, 2) := by decide +kernel
theorem dX10_tick_55 : decode cX10_tick 55 = .ok (.isub, 1) := by decide +kernel
theorem dX10_tick_56 : decode cX10_tick 56 = .ok (.goto 4, 3) := by decide +kernel
theorem dX10_tick_59 : decode cX10_tick 59 = .ok (.iconst 0, 1) := by decide +kernel
theorem dX10_tick_60 : decode cX10_tick 60 = .ok (.putfield 129, 3) := by decide +kernel
theorem dX10_tick_63 : decode cX10_tick 63 = .ok (.aload_n 0, 1) := by decide +kernel
theorem dX10_tick_64 : decode cX10_tick 64 = .ok (.getfield 129, 3) := by decide +kernel
theorem dX10_tick_67 : decode cX10_tick 67 = .ok (.aload_n 0, 1) := by decide +kernel
theorem dX10_tick_68 : decode cX10_tick 68 = .ok (.getfield 20, 3) := by decide +kernel
theorem dX10_tick_71 : decode cX10_tick 71 = .ok (.aload_n 0, 1) := by decide +kernel
theorem dX10_tick_72 : decode cX10_tick 72 = .ok (.getfield 132, 3) := by decide +kernel
theorem dX10_tick_75 : decode cX10_tick 75 = .ok (.iaload, 1) := by decide +kernel
theorem dX10_tick_76 : decode cX10_tick 76 = .ok (.aload_n 0, 1) := by decide +kernel
theorem dX10_tick_77 : decode cX10_tick 77 = .ok (.getfield 26, 3) := by decide +kernel
theorem dX10_tick_80 : decode cX10_tick 80 = .ok (.iload_n 2, 1) := by decide +kernel
theorem dX10_tick_81 : decode cX10_tick 81 = .ok (.iaload, 1) := by decide +kernel
theorem dX10_tick_82 : decode cX10_tick 82 = .ok (.iadd, 1) := by decide +kernel
theorem dX10_tick_83 : decode cX10_tick 83 = .ok (.imul, 1) := by decide +kernel
theorem dX10_tick_84 : decode cX10_tick 84 = .ok (.istore 6, 2) := by decide +kernel
theorem dX10_tick_86 : decode cX10_tick 86 = .ok (.bipush 10, 2) := by decide +kernel
theorem dX10_tick_88 : decode cX10_tick 88 = .ok (.iload_n 3, 1) := by decide +kernel
theorem dX10_tick_89 : decode cX10_tick 89 = .ok (.aload_n 0, 1) := by decide +kernel
theorem dX10_tick_90 : decode cX10_tick 90 = .ok (.getfield 126, 3) := by decide +kernel
theorem dX10_tick_93 : decode cX10_tick 93 = .ok (.iadd, 1) := by decide +kernel
theorem dX10_tick_94 : decode cX10_tick 94 = .ok (.imul, 1) := by decide +kernel
theorem dX10_tick_95 : decode cX10_tick 95 = .ok (.istore 7, 2) := by decide +kernel
theorem dX10_tick_97 : decode cX10_tick 97 = .ok (.iload 6, 2) := by decide +kernel
theorem dX10_tick_99 : decode cX10_tick 99 = .ok (.iload 7, 2) := by decide +kernel
theorem dX10_tick_101 : decode cX10_tick 101 = .ok (.if_icmp .le 30, 3) := by decide +kernel
theorem dX10_tick_104 : decode cX10_tick 104 = .ok (.aload_n 0, 1) := by decide +kernel
theorem dX10_tick_105 : decode cX10_tick 105 = .ok (.aload_n 0, 1) := by decide +kernel
theorem dX10_tick_106 : decode cX10_tick 106 = .ok (.getfield 132, 3) := by decide +kernel
theorem dX10_tick_109 : decode cX10_tick 109 = .ok (.bipush 7, 2) := by decide +kernel
theorem dX10_tick_111 : decode cX10_tick 111 = .ok (.if_icmp .ge 12, 3) := by decide +kernel
theorem dX10_tick_114 : decode cX10_tick 114 = .ok (.aload_n 0, 1) := by decide +kernel
theorem dX10_tick_115 : decode cX10_tick 115 = .ok (.getfield 132, 3) := by decide +kernel
theorem dX10_tick_118 : decode cX10_tick 118 = .ok (.iconst 1, 1) := by decide +kernel
theorem dX10_tick_119 : decode cX10_tick 119 = .ok (.iadd, 1) := by decide +kernel
theorem dX10_tick_120 : decode cX10_tick 120 = .ok (.goto 5, 3) := by decide +kernel
theorem dX10_tick_123 : decode cX10_tick 123 = .ok (.bipush 7, 2) := by decide +kernel
theorem dX10_tick_125 : decode cX10_tick 125 = .ok (.putfield 132, 3) := by decide +kernel
theorem dX10_tick_128 : decode cX10_tick 128 = .ok (.goto 20, 3) := by decide +kernel
theorem dX10_tick_131 : decode cX10_tick 131 = .ok (.iload 6, 2) := by decide +kernel
theorem dX10_tick_133 : decode cX10_tick 133 = .ok (.iload 7, 2) := by decide +kernel
theorem dX10_tick_135 : decode cX10_tick 135 = .ok (.if_icmp .ge 13, 3) := by decide +kernel
theorem dX10_tick_138 : decode cX10_tick 138 = .ok (.aload_n 0, 1) := by decide +kernel
theorem dX10_tick_139 : decode cX10_tick 139 = .ok (.dup, 1) := by decide +kernel
theorem dX10_tick_140 : decode cX10_tick 140 = .ok (.getfield 132, 3) := by decide +kernel
theorem dX10_tick_143 : decode cX10_tick 143 = .ok (.iconst 1, 1) := by decide +kernel
theorem dX10_tick_144 : decode cX10_tick 144 = .ok (.isub, 1) := by decide +kernel
theorem dX10_tick_145 : decode cX10_tick 145 = .ok (.putfield 132, 3) := by decide +kernel
theorem dX10_tick_148 : decode cX10_tick 148 = .ok (.aload_n 0, 1) := by decide +kernel
theorem dX10_tick_149 : decode cX10_tick 149 = .ok (.getfield 129, 3) := by decide +kernel
theorem dX10_tick_152 : decode cX10_tick 152 = .ok (.aload_n 0, 1) := by decide +kernel
theorem dX10_tick_153 : decode cX10_tick 153 = .ok (.getfield 23, 3) := by decide +kernel
theorem dX10_tick_156 : decode cX10_tick 156 = .ok (.aload_n 0, 1) := by decide +kernel
theorem dX10_tick_157 : decode cX10_tick 157 = .ok (.getfield 132, 3) := by decide +kernel
theorem dX10_tick_160 : decode cX10_tick 160 = .ok (.iaload, 1) := by decide +kernel
theorem dX10_tick_161 : decode cX10_tick 161 = .ok (.if_icmp .le 39, 3) := by decide +kernel
theorem dX10_tick_164 : decode cX10_tick 164 = .ok (.aload_n 0, 1) := by decide +kernel
theorem dX10_tick_165 : decode cX10_tick 165 = .ok (.dup, 1) := by decide +kernel
theorem dX10_tick_166 : decode cX10_tick 166 = .ok (.getfield 135, 3) := by decide +kernel
theorem dX10_tick_169 : decode cX10_tick 169 = .ok (.aload_n 0, 1) := by decide +kernel
theorem dX10_tick_170 : decode cX10_tick 170 = .ok (.getfield 129, 3) := by decide +kernel
theorem dX10_tick_173 : decode cX10_tick 173 = .ok (.aload_n 0, 1) := by decide +kernel
theorem dX10_tick_174 : decode cX10_tick 174 = .ok (.getfield 23, 3) := by decide +kernel
theorem dX10_tick_177 : decode cX10_tick 177 = .ok (.aload_n 0, 1) := by decide +kernel
theorem dX10_tick_178 : decode cX10_tick 178 = .ok (.getfield 132, 3) := by decide +kernel
theorem dX10_tick_181 : decode cX10_tick 181 = .ok (.iaload, 1) := by decide +kernel
theorem dX10_tick_182 : decode cX10_tick 182 = .ok (.isub, 1) := by decide +kernel
theorem dX10_tick_183 : decode cX10_tick 183 = .ok (.iadd, 1) := by decide +kernel
theorem dX10_tick_184 : decode cX10_tick 184 = .ok (.putfield 135, 3) := by decide +kernel
theorem dX10_tick_187 : decode cX10_tick 187 = .ok (.aload_n 0, 1) := by decide +kernel
theorem dX10_tick_188 : decode cX10_tick 188 = .ok (.aload_n 0, 1) := by decide +kernel
theorem dX10_tick_189 : decode cX10_tick 189 = .ok (.getfield 23, 3) := by decide +kernel
theorem dX10_tick_192 : decode cX10_tick 192 = .ok (.aload_n 0, 1) := by decide +kernel
theorem dX10_tick_193 : decode cX10_tick 193 = .ok (.getfield 132, 3) := by decide +kernel
theorem dX10_tick_196 : decode cX10_tick 196 = .ok (.iaload, 1) := by decide +kernel
theorem dX10_tick_197 : decode cX10_tick 197 = .ok (.putfield 129, 3) := by decide +kernel
theorem dX10_tick_200 : decode cX10_tick 200 = .ok (.aload_n 0, 1) := by decide +kernel
theorem dX10_tick_201 : decode cX10_tick 201 = .ok (.getfield 132, 3) := by decide +kernel
theorem dX10_tick_204 : decode cX10_tick 204 = .ok (.ifCond .le 41, 3) := by decide +kernel
theorem dX10_tick_207 : decode cX10_tick 207 = .ok (.aload_n 0, 1) := by decide +kernel
theorem dX10_tick_208 : decode cX10_tick 208 = .ok (.iload_n 1, 1) := by decide +kernel
theorem dX10_tick_209 : decode cX10_tick 209 = .ok (.aload_n 0, 1) := by decide +kernel
theorem dX10_tick_210 : decode cX10_tick 210 = .ok (.getfield 132, 3) := by decide +kernel
theorem dX10_tick_213 : decode cX10_tick 213 = .ok (.iload_n 2, 1) := by decide +kernel
theorem dX10_tick_214 : decode cX10_tick 214 = .ok (.aload_n 0, 1) := by decide +kernel
theorem dX10_tick_215 : decode cX10_tick 215 = .ok (.getfield 138, 3) := by decide +kernel
theorem dX10_tick_218 : decode cX10_tick 218 = .ok (.aload_n 0, 1) := by decide +kernel
theorem dX10_tick_219 : decode cX10_tick 219 = .ok (.getfield 141, 3) := by decide +kernel
theorem dX10_tick_222 : decode cX10_tick 222 = .ok (.invokevirtual 144, 3) := by decide +kernel
theorem dX10_tick_225 : decode cX10_tick 225 = .ok (.istore 8, 2) := by decide +kernel
theorem dX10_tick_227 : decode cX10_tick 227 = .ok (.aload_n 0, 1) := by decide +kernel
theorem dX10_tick_228 : decode cX10_tick 228 = .ok (.iload 8, 2) := by decide +kernel
theorem dX10_tick_230 : decode cX10_tick 230 = .ok (.bipush 24, 2) := by decide +kernel
theorem dX10_tick_232 : decode cX10_tick 232 = .ok (.irem, 1) := by decide +kernel
theorem dX10_tick_233 : decode cX10_tick 233 = .ok (.putfield 138, 3) := by decide +kernel
theorem dX10_tick_236 : decode cX10_tick 236 = .ok (.aload_n 0, 1) := by decide +kernel
theorem dX10_tick_237 : decode cX10_tick 237 = .ok (.iload 8, 2) := by decide +kernel
theorem dX10_tick_239 : decode cX10_tick 239 = .ok (.bipush 24, 2) := by decide +kernel
theorem dX10_tick_241 : decode cX10_tick 241 = .ok (.idiv, 1) := by decide +kernel
theorem dX10_tick_242 : decode cX10_tick 242 = .ok (.putfield 141, 3) := by decide +kernel
theorem dX10_tick_245 : decode cX10_tick 245 = .ok (.return_, 1) := by decide +kernel
set_option maxRecDepth 20000 in
theorem ggX10_led_X10_windAt : GoodIn wsX10_led wsX10_windAt := goodIn_r _ [6] (by decide +kernel) (by decide +kernel)
set_option maxRecDepth 20000 in
theorem gX10_led_X10_windAt : GoodIn wsX10_led (va_wsS RX10 122 yX10_windAt wsX10_windAt) := goodIn_app (goodIn_of _ (by decide +kernel)) ggX10_led_X10_windAt
set_option maxRecDepth 20000 in
theorem ggX10_led_X10_isCell : GoodIn wsX10_led wsX10_isCell := goodIn_r _ [10, 11, 12, 13, 14, 5, 15, 16, 17, 18, 19, 20, 21, 22, 23, 24, 25, 26, 27, 28, 29, 30, 31, 32, 33, 34, 35, 36, 37, 38, 39, 40, 41, 42, 43, 44, 45, 46, 47, 48, 49, 50, 51, 52, 53, 54, 55, 56, 57, 58] (by decide +kernel) (by decide +kernel)
set_option maxRecDepth 20000 in
theorem gX10_led_X10_isCell : GoodIn wsX10_led (wsV RX10 118 RX10 yX10_isCell wsX10_isCell) := goodIn_app (goodIn_of _ (by decide +kernel)) ggX10_led_X10_isCell
theorem dX10_led_0 : decode cX10_led 0 = .ok (.iload_n 1, 1) := by decide +kernel
theorem dX10_led_1 : decode cX10_led 1 = .ok (.iload_n 2, 1) := by decide +kernel
theorem dX10_led_2 : decode cX10_led 2 = .ok (.iload_n 3, 1) := by decide +kernel
theorem dX10_led_3 : decode cX10_led 3 = .ok (.invokestatic 122, 3) := by decide +kernel
theorem dX10_led_6 : decode cX10_led 6 = .ok (.istore 6, 2) := by decide +kernel
theorem dX10_led_8 : decode cX10_led 8 = .ok (.aload_n 0, 1) := by decide +kernel
theorem dX10_led_9 : decode cX10_led 9 = .ok (.iload 4, 2) := by decide +kernel
theorem dX10_led_11 : decode cX10_led 11 = .ok (.aload_n 0, 1) := by decide +kernel
theorem dX10_led_12 : decode cX10_led 12 = .ok (.getfield 29, 3) := by decide +kernel
theorem dX10_led_15 : decode cX10_led 15 = .ok (.iload 6, 2) := by decide +kernel
theorem dX10_led_17 : decode cX10_led 17 = .ok (.iaload, 1) := by decide +kernel
theorem dX10_led_18 : decode cX10_led 18 = .ok (.iadd, 1) := by decide +kernel
theorem dX10_led_19 : decode cX10_led 19 = .ok (.iload 5, 2) := by decide +kernel
theorem dX10_led_21 : decode cX10_led 21 = .ok (.aload_n 0, 1) := by decide +kernel
theorem dX10_led_22 : decode cX10_led 22 = .ok (.getfield 32, 3) := by decide +kernel
theorem dX10_led_25 : decode cX10_led 25 = .ok (.iload 6, 2) := by decide +kernel
theorem dX10_led_27 : decode cX10_led 27 = .ok (.iaload, 1) := by decide +kernel
theorem dX10_led_28 : decode cX10_led 28 = .ok (.iadd, 1) := by decide +kernel
theorem dX10_led_29 : decode cX10_led 29 = .ok (.invokevirtual 118, 3) := by decide +kernel
theorem dX10_led_32 : decode cX10_led 32 = .ok (.ifCond .eq 30, 3) := by decide +kernel
theorem dX10_led_35 : decode cX10_led 35 = .ok (.bipush 24, 2) := by decide +kernel
theorem dX10_led_37 : decode cX10_led 37 = .ok (.iload 5, 2) := by decide +kernel
theorem dX10_led_39 : decode cX10_led 39 = .ok (.aload_n 0, 1) := by decide +kernel
theorem dX10_led_40 : decode cX10_led 40 = .ok (.getfield 32, 3) := by decide +kernel
theorem dX10_led_43 : decode cX10_led 43 = .ok (.iload 6, 2) := by decide +kernel
theorem dX10_led_45 : decode cX10_led 45 = .ok (.iaload, 1) := by decide +kernel
theorem dX10_led_46 : decode cX10_led 46 = .ok (.iadd, 1) := by decide +kernel
theorem dX10_led_47 : decode cX10_led 47 = .ok (.imul, 1) := by decide +kernel
theorem dX10_led_48 : decode cX10_led 48 = .ok (.iload 4, 2) := by decide +kernel
theorem dX10_led_50 : decode cX10_led 50 = .ok (.iadd, 1) := by decide +kernel
theorem dX10_led_51 : decode cX10_led 51 = .ok (.aload_n 0, 1) := by decide +kernel
theorem dX10_led_52 : decode cX10_led 52 = .ok (.getfield 29, 3) := by decide +kernel
theorem dX10_led_55 : decode cX10_led 55 = .ok (.iload 6, 2) := by decide +kernel
theorem dX10_led_57 : decode cX10_led 57 = .ok (.iaload, 1) := by decide +kernel
theorem dX10_led_58 : decode cX10_led 58 = .ok (.iadd, 1) := by decide +kernel
theorem dX10_led_59 : decode cX10_led 59 = .ok (.goto 11, 3) := by decide +kernel
theorem dX10_led_62 : decode cX10_led 62 = .ok (.bipush 24, 2) := by decide +kernel
theorem dX10_led_64 : decode cX10_led 64 = .ok (.iload 5, 2) := by decide +kernel
theorem dX10_led_66 : decode cX10_led 66 = .ok (.imul, 1) := by decide +kernel
theorem dX10_led_67 : decode cX10_led 67 = .ok (.iload 4, 2) := by decide +kernel
theorem dX10_led_69 : decode cX10_led 69 = .ok (.iadd, 1) := by decide +kernel
theorem dX10_led_70 : decode cX10_led 70 = .ok (.ireturn, 1) := by decide +kernel
theorem dX10_begin_0 : decode cX10_begin 0 = .ok (.aload_n 0, 1) := by decide +kernel
theorem dX10_begin_1 : decode cX10_begin 1 = .ok (.aload_n 0, 1) := by decide +kernel
theorem dX10_begin_2 : decode cX10_begin 2 = .ok (.getfield 35, 3) := by decide +kernel
theorem dX10_begin_5 : decode cX10_begin 5 = .ok (.iload_n 1, 1) := by decide +kernel
theorem dX10_begin_6 : decode cX10_begin 6 = .ok (.iaload, 1) := by decide +kernel
theorem dX10_begin_7 : decode cX10_begin 7 = .ok (.putfield 138, 3) := by decide +kernel
theorem dX10_begin_10 : decode cX10_begin 10 = .ok (.aload_n 0, 1) := by decide +kernel
theorem dX10_begin_11 : decode cX10_begin 11 = .ok (.aload_n 0, 1) := by decide +kernel
theorem dX10_begin_12 : decode cX10_begin 12 = .ok (.getfield 38, 3) := by decide +kernel
theorem dX10_begin_15 : decode cX10_begin 15 = .ok (.iload_n 1, 1) := by decide +kernel
theorem dX10_begin_16 : decode cX10_begin 16 = .ok (.iaload, 1) := by decide +kernel
theorem dX10_begin_17 : decode cX10_begin 17 = .ok (.putfield 141, 3) := by decide +kernel
theorem dX10_begin_20 : decode cX10_begin 20 = .ok (.aload_n 0, 1) := by decide +kernel
theorem dX10_begin_21 : decode cX10_begin 21 = .ok (.aload_n 0, 1) := by decide +kernel
theorem dX10_begin_22 : decode cX10_begin 22 = .ok (.getfield 41, 3) := by decide +kernel
theorem dX10_begin_25 : decode cX10_begin 25 = .ok (.iload_n 1, 1) := by decide +kernel
theorem dX10_begin_26 : decode cX10_begin 26 = .ok (.iaload, 1) := by decide +kernel
theorem dX10_begin_27 : decode cX10_begin 27 = .ok (.putfield 132, 3) := by decide +kernel
theorem dX10_begin_30 : decode cX10_begin 30 = .ok (.aload_n 0, 1) := by decide +kernel
theorem dX10_begin_31 : decode cX10_begin 31 = .ok (.aload_n 0, 1) := by decide +kernel
theorem dX10_begin_32 : decode cX10_begin 32 = .ok (.getfield 50, 3) := by decide +kernel
theorem dX10_begin_35 : decode cX10_begin 35 = .ok (.iload_n 1, 1) := by decide +kernel
theorem dX10_begin_36 : decode cX10_begin 36 = .ok (.iaload, 1) := by decide +kernel
theorem dX10_begin_37 : decode cX10_begin 37 = .ok (.putfield 129, 3) := by decide +kernel
theorem dX10_begin_40 : decode cX10_begin 40 = .ok (.aload_n 0, 1) := by decide +kernel
theorem dX10_begin_41 : decode cX10_begin 41 = .ok (.aload_n 0, 1) := by decide +kernel
theorem dX10_begin_42 : decode cX10_begin 42 = .ok (.getfield 53, 3) := by decide +kernel
theorem dX10_begin_45 : decode cX10_begin 45 = .ok (.iload_n 1, 1) := by decide +kernel
theorem dX10_begin_46 : decode cX10_begin 46 = .ok (.iaload, 1) := by decide +kernel
theorem dX10_begin_47 : decode cX10_begin 47 = .ok (.putfield 126, 3) := by decide +kernel
theorem dX10_begin_50 : decode cX10_begin 50 = .ok (.aload_n 0, 1) := by decide +kernel
theorem dX10_begin_51 : decode cX10_begin 51 = .ok (.aload_n 0, 1) := by decide +kernel
theorem dX10_begin_52 : decode cX10_begin 52 = .ok (.getfield 56, 3) := by decide +kernel
theorem dX10_begin_55 : decode cX10_begin 55 = .ok (.iload_n 1, 1) := by decide +kernel
theorem dX10_begin_56 : decode cX10_begin 56 = .ok (.iaload, 1) := by decide +kernel
theorem dX10_begin_57 : decode cX10_begin 57 = .ok (.putfield 135, 3) := by decide +kernel
theorem dX10_begin_60 : decode cX10_begin 60 = .ok (.return_, 1) := by decide +kernel
theorem dX10_writes_0 : decode cX10_writes 0 = .ok (.aload_n 0, 1) := by decide +kernel
theorem dX10_writes_1 : decode cX10_writes 1 = .ok (.getfield 69, 3) := by decide +kernel
theorem dX10_writes_4 : decode cX10_writes 4 = .ok (.bipush 61, 2) := by decide +kernel
theorem dX10_writes_6 : decode cX10_writes 6 = .ok (.iload_n 1, 1) := by decide +kernel
theorem dX10_writes_7 : decode cX10_writes 7 = .ok (.imul, 1) := by decide +kernel
theorem dX10_writes_8 : decode cX10_writes 8 = .ok (.aload_n 0, 1) := by decide +kernel
theorem dX10_writes_9 : decode cX10_writes 9 = .ok (.getfield 66, 3) := by decide +kernel
theorem dX10_writes_12 : decode cX10_writes 12 = .ok (.iload_n 1, 1) := by decide +kernel
theorem dX10_writes_13 : decode cX10_writes 13 = .ok (.iaload, 1) := by decide +kernel
theorem dX10_writes_14 : decode cX10_writes 14 = .ok (.iadd, 1) := by decide +kernel
theorem dX10_writes_15 : decode cX10_writes 15 = .ok (.bipush 24, 2) := by decide +kernel
theorem dX10_writes_17 : decode cX10_writes 17 = .ok (.aload_n 0, 1) := by decide +kernel
theorem dX10_writes_18 : decode cX10_writes 18 = .ok (.getfield 38, 3) := by decide +kernel
theorem dX10_writes_21 : decode cX10_writes 21 = .ok (.iload_n 1, 1) := by decide +kernel
theorem dX10_writes_22 : decode cX10_writes 22 = .ok (.iaload, 1) := by decide +kernel
theorem dX10_writes_23 : decode cX10_writes 23 = .ok (.imul, 1) := by decide +kernel
theorem dX10_writes_24 : decode cX10_writes 24 = .ok (.aload_n 0, 1) := by decide +kernel
theorem dX10_writes_25 : decode cX10_writes 25 = .ok (.getfield 35, 3) := by decide +kernel
theorem dX10_writes_28 : decode cX10_writes 28 = .ok (.iload_n 1, 1) := by decide +kernel
theorem dX10_writes_29 : decode cX10_writes 29 = .ok (.iaload, 1) := by decide +kernel
theorem dX10_writes_30 : decode cX10_writes 30 = .ok (.iadd, 1) := by decide +kernel
theorem dX10_writes_31 : decode cX10_writes 31 = .ok (.iastore, 1) := by decide +kernel
theorem dX10_writes_32 : decode cX10_writes 32 = .ok (.aload_n 0, 1) := by decide +kernel
theorem dX10_writes_33 : decode cX10_writes 33 = .ok (.getfield 72, 3) := by decide +kernel
theorem dX10_writes_36 : decode cX10_writes 36 = .ok (.bipush 61, 2) := by decide +kernel
theorem dX10_writes_38 : decode cX10_writes 38 = .ok (.iload_n 1, 1) := by decide +kernel
theorem dX10_writes_39 : decode cX10_writes 39 = .ok (.imul, 1) := by decide +kernel
theorem dX10_writes_40 : decode cX10_writes 40 = .ok (.aload_n 0, 1) := by decide +kernel
theorem dX10_writes_41 : decode cX10_writes 41 = .ok (.getfield 66, 3) := by decide +kernel
theorem dX10_writes_44 : decode cX10_writes 44 = .ok (.iload_n 1, 1) := by decide +kernel
theorem dX10_writes_45 : decode cX10_writes 45 = .ok (.iaload, 1) := by decide +kernel
theorem dX10_writes_46 : decode cX10_writes 46 = .ok (.iadd, 1) := by decide +kernel
theorem dX10_writes_47 : decode cX10_writes 47 = .ok (.aload_n 0, 1) := by decide +kernel
theorem dX10_writes_48 : decode cX10_writes 48 = .ok (.getfield 41, 3) := by decide +kernel
theorem dX10_writes_51 : decode cX10_writes 51 = .ok (.iload_n 1, 1) := by decide +kernel
theorem dX10_writes_52 : decode cX10_writes 52 = .ok (.iaload, 1) := by decide +kernel
theorem dX10_writes_53 : decode cX10_writes 53 = .ok (.iastore, 1) := by decide +kernel
theorem dX10_writes_54 : decode cX10_writes 54 = .ok (.aload_n 0, 1) := by decide +kernel
theorem dX10_writes_55 : decode cX10_writes 55 = .ok (.getfield 75, 3) := by decide +kernel
theorem dX10_writes_58 : decode cX10_writes 58 = .ok (.bipush 61, 2) := by decide +kernel
theorem dX10_writes_60 : decode cX10_writes 60 = .ok (.iload_n 1, 1) := by decide +kernel
theorem dX10_writes_61 : decode cX10_writes 61 = .ok (.imul, 1) := by decide +kernel
theorem dX10_writes_62 : decode cX10_writes 62 = .ok (.aload_n 0, 1) := by decide +kernel
theorem dX10_writes_63 : decode cX10_writes 63 = .ok (.getfield 66, 3) := by decide +kernel
theorem dX10_writes_66 : decode cX10_writes 66 = .ok (.iload_n 1, 1) := by decide +kernel
theorem dX10_writes_67 : decode cX10_writes 67 = .ok (.iaload, 1) := by decide +kernel
theorem dX10_writes_68 : decode cX10_writes 68 = .ok (.iadd, 1) := by decide +kernel
theorem dX10_writes_69 : decode cX10_writes 69 = .ok (.iconst 0, 1) := by decide +kernel
theorem dX10_writes_70 : decode cX10_writes 70 = .ok (.bastore, 1) := by decide +kernel
theorem dX10_writes_71 : decode cX10_writes 71 = .ok (.aload_n 0, 1) := by decide +kernel
theorem dX10_writes_72 : decode cX10_writes 72 = .ok (.getfield 66, 3) := by decide +kernel
theorem dX10_writes_75 : decode cX10_writes 75 = .ok (.iload_n 1, 1) := by decide +kernel
theorem dX10_writes_76 : decode cX10_writes 76 = .ok (.dup2, 1) := by decide +kernel
theorem dX10_writes_77 : decode cX10_writes 77 = .ok (.iaload, 1) := by decide +kernel
theorem dX10_writes_78 : decode cX10_writes 78 = .ok (.iconst 1, 1) := by decide +kernel
theorem dX10_writes_79 : decode cX10_writes 79 = .ok (.iadd, 1) := by decide +kernel
theorem dX10_writes_80 : decode cX10_writes 80 = .ok (.iastore, 1) := by decide +kernel
theorem dX10_writes_81 : decode cX10_writes 81 = .ok (.return_, 1) := by decide +kernel
set_option maxRecDepth 20000 in
theorem ggX10_fly_X10_isCell : GoodIn wsX10_fly wsX10_isCell := goodIn_r _ [18, 19, 20, 21, 22, 17, 23, 31, 32, 33, 34, 35, 36, 37, 38, 39, 40, 41, 42, 43, 44, 45, 46, 47, 48, 49, 50, 51, 52, 53, 54, 55, 56, 57, 58, 59, 60, 61, 62, 63, 64, 65, 66, 67, 68, 69, 70, 71, 72, 73] (by decide +kernel) (by decide +kernel)
set_option maxRecDepth 20000 in
theorem gX10_fly_X10_isCell : GoodIn wsX10_fly (wsV RX10 118 RX10 yX10_isCell wsX10_isCell) := goodIn_app (goodIn_of _ (by decide +kernel)) ggX10_fly_X10_isCell
set_option maxRecDepth 20000 in
theorem ggX10_fly_X10_in : GoodIn wsX10_fly wsX10_in := goodIn_r _ [23] (by decide +kernel) (by decide +kernel)
set_option maxRecDepth 20000 in
theorem gX10_fly_X10_in : GoodIn wsX10_fly (va_wsS RX10 108 yX10_in wsX10_in) := goodIn_app (goodIn_of _ (by decide +kernel)) ggX10_fly_X10_in
set_option maxRecDepth 20000 in
theorem ggX10_fly_X10_writes : GoodIn wsX10_fly wsX10_writes := goodIn_r _ [27, 28, 13, 4, 3, 29, 5, 30, 31, 32, 33, 34, 35, 36, 37, 38, 39, 40, 41, 42, 43, 44, 45, 46, 47, 48, 49, 50, 51, 52, 53, 54, 55, 56, 57, 58, 59, 60, 61, 62, 63, 64, 65, 66, 67, 68, 69, 70, 71, 72, 73] (by decide +kernel) (by decide +kernel)
set_option maxRecDepth 20000 in
theorem gX10_fly_X10_writes : GoodIn wsX10_fly (wsV RX10 148 RX10 yX10_writes wsX10_writes) := goodIn_app (goodIn_of _ (by decide +kernel)) ggX10_fly_X10_writes
theorem dX10_fly_0 : decode cX10_fly 0 = .ok (.aload_n 0, 1) := by decide +kernel
theorem dX10_fly_1 : decode cX10_fly 1 = .ok (.iload_n 1, 1) := by decide +kernel
theorem dX10_fly_2 : decode cX10_fly 2 = .ok (.iload_n 2, 1) := by decide +kernel
theorem dX10_fly_3 : decode cX10_fly 3 = .ok (.invokevirtual 118, 3) := by decide +kernel
theorem dX10_fly_6 : decode cX10_fly 6 = .ok (.ifCond .eq 49, 3) := by decide +kernel
theorem dX10_fly_9 : decode cX10_fly 9 = .ok (.iload_n 3, 1) := by decide +kernel
theorem dX10_fly_10 : decode cX10_fly 10 = .ok (.iconst 0, 1) := by decide +kernel
theorem dX10_fly_11 : decode cX10_fly 11 = .ok (.bipush 23, 2) := by decide +kernel
theorem dX10_fly_13 : decode cX10_fly 13 = .ok (.invokestatic 108, 3) := by decide +kernel
theorem dX10_fly_16 : decode cX10_fly 16 = .ok (.ifCond .eq 39, 3) := by decide +kernel
theorem dX10_fly_19 : decode cX10_fly 19 = .ok (.iload 4, 2) := by decide +kernel
theorem dX10_fly_21 : decode cX10_fly 21 = .ok (.iconst 1, 1) := by decide +kernel
theorem dX10_fly_22 : decode cX10_fly 22 = .ok (.sipush 200, 3) := by decide +kernel
theorem dX10_fly_25 : decode cX10_fly 25 = .ok (.invokestatic 108, 3) := by decide +kernel
theorem dX10_fly_28 : decode cX10_fly 28 = .ok (.ifCond .eq 27, 3) := by decide +kernel
theorem dX10_fly_31 : decode cX10_fly 31 = .ok (.iload 5, 2) := by decide +kernel
theorem dX10_fly_33 : decode cX10_fly 33 = .ok (.iconst 0, 1) := by decide +kernel
theorem dX10_fly_34 : decode cX10_fly 34 = .ok (.sipush 500, 3) := by decide +kernel
theorem dX10_fly_37 : decode cX10_fly 37 = .ok (.invokestatic 108, 3) := by decide +kernel
theorem dX10_fly_40 : decode cX10_fly 40 = .ok (.ifCond .eq 15, 3) := by decide +kernel
theorem dX10_fly_43 : decode cX10_fly 43 = .ok (.iload 6, 2) := by decide +kernel
theorem dX10_fly_45 : decode cX10_fly 45 = .ok (.iconst 0, 1) := by decide +kernel
theorem dX10_fly_46 : decode cX10_fly 46 = .ok (.sipush 200, 3) := by decide +kernel
theorem dX10_fly_49 : decode cX10_fly 49 = .ok (.invokestatic 108, 3) := by decide +kernel
theorem dX10_fly_52 : decode cX10_fly 52 = .ok (.ifCond .ne 6, 3) := by decide +kernel
theorem dX10_fly_55 : decode cX10_fly 55 = .ok (.bipush (-2), 2) := by decide +kernel
theorem dX10_fly_57 : decode cX10_fly 57 = .ok (.ireturn, 1) := by decide +kernel
theorem dX10_fly_58 : decode cX10_fly 58 = .ok (.aload_n 0, 1) := by decide +kernel
theorem dX10_fly_59 : decode cX10_fly 59 = .ok (.getfield 16, 3) := by decide +kernel
theorem dX10_fly_62 : decode cX10_fly 62 = .ok (.bipush 24, 2) := by decide +kernel
theorem dX10_fly_64 : decode cX10_fly 64 = .ok (.iload_n 2, 1) := by decide +kernel
theorem dX10_fly_65 : decode cX10_fly 65 = .ok (.imul, 1) := by decide +kernel
theorem dX10_fly_66 : decode cX10_fly 66 = .ok (.iload_n 1, 1) := by decide +kernel
theorem dX10_fly_67 : decode cX10_fly 67 = .ok (.iadd, 1) := by decide +kernel
theorem dX10_fly_68 : decode cX10_fly 68 = .ok (.iaload, 1) := by decide +kernel
theorem dX10_fly_69 : decode cX10_fly 69 = .ok (.iconst 2, 1) := by decide +kernel
theorem dX10_fly_70 : decode cX10_fly 70 = .ok (.if_icmp .ne 6, 3) := by decide +kernel
theorem dX10_fly_73 : decode cX10_fly 73 = .ok (.bipush (-3), 2) := by decide +kernel
theorem dX10_fly_75 : decode cX10_fly 75 = .ok (.ireturn, 1) := by decide +kernel
theorem dX10_fly_76 : decode cX10_fly 76 = .ok (.aload_n 0, 1) := by decide +kernel
theorem dX10_fly_77 : decode cX10_fly 77 = .ok (.getfield 112, 3) := by decide +kernel
theorem dX10_fly_80 : decode cX10_fly 80 = .ok (.bipush 8, 2) := by decide +kernel
theorem dX10_fly_82 : decode cX10_fly 82 = .ok (.if_icmp .ne 6, 3) := by decide +kernel
theorem dX10_fly_85 : decode cX10_fly 85 = .ok (.bipush (-4), 2) := by decide +kernel
theorem dX10_fly_87 : decode cX10_fly 87 = .ok (.ireturn, 1) := by decide +kernel
theorem dX10_fly_88 : decode cX10_fly 88 = .ok (.aload_n 0, 1) := by decide +kernel
theorem dX10_fly_89 : decode cX10_fly 89 = .ok (.getfield 112, 3) := by decide +kernel
theorem dX10_fly_92 : decode cX10_fly 92 = .ok (.istore 7, 2) := by decide +kernel
theorem dX10_fly_94 : decode cX10_fly 94 = .ok (.aload_n 0, 1) := by decide +kernel
theorem dX10_fly_95 : decode cX10_fly 95 = .ok (.dup, 1) := by decide +kernel
theorem dX10_fly_96 : decode cX10_fly 96 = .ok (.getfield 112, 3) := by decide +kernel
theorem dX10_fly_99 : decode cX10_fly 99 = .ok (.iconst 1, 1) := by decide +kernel
theorem dX10_fly_100 : decode cX10_fly 100 = .ok (.iadd, 1) := by decide +kernel
theorem dX10_fly_101 : decode cX10_fly 101 = .ok (.putfield 112, 3) := by decide +kernel
theorem dX10_fly_104 : decode cX10_fly 104 = .ok (.aload_n 0, 1) := by decide +kernel
theorem dX10_fly_105 : decode cX10_fly 105 = .ok (.getfield 35, 3) := by decide +kernel
theorem dX10_fly_108 : decode cX10_fly 108 = .ok (.iload 7, 2) := by decide +kernel
theorem dX10_fly_110 : decode cX10_fly 110 = .ok (.iload_n 1, 1) := by decide +kernel
theorem dX10_fly_111 : decode cX10_fly 111 = .ok (.iastore, 1) := by decide +kernel
theorem dX10_fly_112 : decode cX10_fly 112 = .ok (.aload_n 0, 1) := by decide +kernel
theorem dX10_fly_113 : decode cX10_fly 113 = .ok (.getfield 38, 3) := by decide +kernel
theorem dX10_fly_116 : decode cX10_fly 116 = .ok (.iload 7, 2) := by decide +kernel
theorem dX10_fly_118 : decode cX10_fly 118 = .ok (.iload_n 2, 1) := by decide +kernel
theorem dX10_fly_119 : decode cX10_fly 119 = .ok (.iastore, 1) := by decide +kernel
theorem dX10_fly_120 : decode cX10_fly 120 = .ok (.aload_n 0, 1) := by decide +kernel
theorem dX10_fly_121 : decode cX10_fly 121 = .ok (.getfield 41, 3) := by decide +kernel
theorem dX10_fly_124 : decode cX10_fly 124 = .ok (.iload 7, 2) := by decide +kernel
theorem dX10_fly_126 : decode cX10_fly 126 = .ok (.iconst 1, 1) := by decide +kernel
theorem dX10_fly_127 : decode cX10_fly 127 = .ok (.iastore, 1) := by decide +kernel
theorem dX10_fly_128 : decode cX10_fly 128 = .ok (.aload_n 0, 1) := by decide +kernel
theorem dX10_fly_129 : decode cX10_fly 129 = .ok (.getfield 44, 3) := by decide +kernel
theorem dX10_fly_132 : decode cX10_fly 132 = .ok (.iload 7, 2) := by decide +kernel
theorem dX10_fly_134 : decode cX10_fly 134 = .ok (.iload_n 3, 1) := by decide +kernel
theorem dX10_fly_135 : decode cX10_fly 135 = .ok (.iastore, 1) := by decide +kernel
theorem dX10_fly_136 : decode cX10_fly 136 = .ok (.aload_n 0, 1) := by decide +kernel
theorem dX10_fly_137 : decode cX10_fly 137 = .ok (.getfield 63, 3) := by decide +kernel
theorem dX10_fly_140 : decode cX10_fly 140 = .ok (.iload 7, 2) := by decide +kernel
theorem dX10_fly_142 : decode cX10_fly 142 = .ok (.iload_n 3, 1) := by decide +kernel
theorem dX10_fly_143 : decode cX10_fly 143 = .ok (.iastore, 1) := by decide +kernel
theorem dX10_fly_144 : decode cX10_fly 144 = .ok (.aload_n 0, 1) := by decide +kernel
theorem dX10_fly_145 : decode cX10_fly 145 = .ok (.getfield 47, 3) := by decide +kernel
theorem dX10_fly_148 : decode cX10_fly 148 = .ok (.iload 7, 2) := by decide +kernel
theorem dX10_fly_150 : decode cX10_fly 150 = .ok (.iload 4, 2) := by decide +kernel
theorem dX10_fly_152 : decode cX10_fly 152 = .ok (.iastore, 1) := by decide +kernel
theorem dX10_fly_153 : decode cX10_fly 153 = .ok (.aload_n 0, 1) := by decide +kernel
theorem dX10_fly_154 : decode cX10_fly 154 = .ok (.getfield 50, 3) := by decide +kernel
theorem dX10_fly_157 : decode cX10_fly 157 = .ok (.iload 7, 2) := by decide +kernel
theorem dX10_fly_159 : decode cX10_fly 159 = .ok (.iload 5, 2) := by decide +kernel
theorem dX10_fly_161 : decode cX10_fly 161 = .ok (.iastore, 1) := by decide +kernel
theorem dX10_fly_162 : decode cX10_fly 162 = .ok (.aload_n 0, 1) := by decide +kernel
theorem dX10_fly_163 : decode cX10_fly 163 = .ok (.getfield 53, 3) := by decide +kernel
theorem dX10_fly_166 : decode cX10_fly 166 = .ok (.iload 7, 2) := by decide +kernel
theorem dX10_fly_168 : decode cX10_fly 168 = .ok (.iload 6, 2) := by decide +kernel
theorem dX10_fly_170 : decode cX10_fly 170 = .ok (.iastore, 1) := by decide +kernel
theorem dX10_fly_171 : decode cX10_fly 171 = .ok (.aload_n 0, 1) := by decide +kernel
theorem dX10_fly_172 : decode cX10_fly 172 = .ok (.getfield 56, 3) := by decide +kernel
theorem dX10_fly_175 : decode cX10_fly 175 = .ok (.iload 7, 2) := by decide +kernel
theorem dX10_fly_177 : decode cX10_fly 177 = .ok (.iconst 0, 1) := by decide +kernel
theorem dX10_fly_178 : decode cX10_fly 178 = .ok (.iastore, 1) := by decide +kernel
theorem dX10_fly_179 : decode cX10_fly 179 = .ok (.aload_n 0, 1) := by decide +kernel
theorem dX10_fly_180 : decode cX10_fly 180 = .ok (.getfield 59, 3) := by decide +kernel
theorem dX10_fly_183 : decode cX10_fly 183 = .ok (.iload 7, 2) := by decide +kernel
theorem dX10_fly_185 : decode cX10_fly 185 = .ok (.iconst 0, 1) := by decide +kernel
theorem dX10_fly_186 : decode cX10_fly 186 = .ok (.bastore, 1) := by decide +kernel
theorem dX10_fly_187 : decode cX10_fly 187 = .ok (.aload_n 0, 1) := by decide +kernel
theorem dX10_fly_188 : decode cX10_fly 188 = .ok (.getfield 66, 3) := by decide +kernel
theorem dX10_fly_191 : decode cX10_fly 191 = .ok (.iload 7, 2) := by decide +kernel
theorem dX10_fly_193 : decode cX10_fly 193 = .ok (.iconst 0, 1) := by decide +kernel
theorem dX10_fly_194 : decode cX10_fly 194 = .ok (.iastore, 1) := by decide +kernel
theorem dX10_fly_195 : decode cX10_fly 195 = .ok (.aload_n 0, 1) := by decide +kernel
theorem dX10_fly_196 : decode cX10_fly 196 = .ok (.iload 7, 2) := by decide +kernel
theorem dX10_fly_198 : decode cX10_fly 198 = .ok (.invokevirtual 148, 3) := by decide +kernel
theorem dX10_fly_201 : decode cX10_fly 201 = .ok (.iload 7, 2) := by decide +kernel
theorem dX10_fly_203 : decode cX10_fly 203 = .ok (.ireturn, 1) := by decide +kernel
set_option maxRecDepth 20000 in
theorem ggX10_go_X10_isFlight : GoodIn wsX10_go wsX10_isFlight := goodIn_r _ [21, 22, 23, 24, 20, 25, 59, 60, 61, 62, 63, 64, 65, 66, 67, 68, 69, 70, 71, 72, 73, 74, 75, 76, 77, 78, 79, 80, 81, 82, 83, 84, 85, 86, 87, 88, 89, 90, 91, 92, 93, 94, 95, 96, 97, 98, 99, 100, 101] (by decide +kernel) (by decide +kernel)
set_option maxRecDepth 20000 in
theorem gX10_go_X10_isFlight : GoodIn wsX10_go (wsV RX10 152 RX10 yX10_isFlight wsX10_isFlight) := goodIn_app (goodIn_of _ (by decide +kernel)) ggX10_go_X10_isFlight
set_option maxRecDepth 20000 in
theorem ggX10_go_X10_in : GoodIn wsX10_go wsX10_in := goodIn_r _ [25] (by decide +kernel) (by decide +kernel)
set_option maxRecDepth 20000 in
theorem gX10_go_X10_in : GoodIn wsX10_go (va_wsS RX10 108 yX10_in wsX10_in) := goodIn_app (goodIn_of _ (by decide +kernel)) ggX10_go_X10_in
set_option maxRecDepth 20000 in
theorem ggX10_go_X10_begin : GoodIn wsX10_go wsX10_begin := goodIn_r _ [29, 5, 6, 7, 8, 9, 10, 11, 12, 13, 14, 15, 16, 59, 60, 61, 62, 63, 64, 65, 66, 67, 68, 69, 70, 71, 72, 73, 74, 75, 76, 77, 78, 79, 80, 81, 82, 83, 84, 85, 86, 87, 88, 89, 90, 91, 92, 93, 94, 95, 96, 97, 98, 99, 100, 101] (by decide +kernel) (by decide +kernel)
set_option maxRecDepth 20000 in
theorem gX10_go_X10_begin : GoodIn wsX10_go (wsV RX10 156 RX10 yX10_begin wsX10_begin) := goodIn_app (goodIn_of _ (by decide +kernel)) ggX10_go_X10_begin
set_option maxRecDepth 20000 in
theorem ggX10_go_X10_tick : GoodIn wsX10_go wsX10_tick := goodIn_r _ [33, 14, 12, 34, 10, 35, 36, 16, 6, 8, 37, 38, 39, 20, 40, 41, 42, 43, 44, 45, 46, 47, 48, 49, 50, 51, 23, 24, 25, 59, 60, 61, 62, 63, 64, 65, 66, 67, 68, 69, 70, 71, 72, 73, 74, 75, 76, 77, 78, 79, 80, 81, 82, 83, 84, 85, 86, 87, 88, 89, 90, 91, 92, 93, 94, 95, 96, 97, 98, 99, 100, 101] (by decide +kernel) (by decide +kernel)
set_option maxRecDepth 20000 in
theorem gX10_go_X10_tick : GoodIn wsX10_go (wsV RX10 159 RX10 yX10_tick wsX10_tick) := goodIn_app (goodIn_of _ (by decide +kernel)) ggX10_go_X10_tick
set_option maxRecDepth 20000 in
theorem ggX10_go_X10_writes : GoodIn wsX10_go wsX10_writes := goodIn_r _ [55, 56, 2, 7, 5, 57, 9, 58, 59, 60, 61, 62, 63, 64, 65, 66, 67, 68, 69, 70, 71, 72, 73, 74, 75, 76, 77, 78, 79, 80, 81, 82, 83, 84, 85, 86, 87, 88, 89, 90, 91, 92, 93, 94, 95, 96, 97, 98, 99, 100, 101] (by decide +kernel) (by decide +kernel)
set_option maxRecDepth 20000 in
theorem gX10_go_X10_writes : GoodIn wsX10_go (wsV RX10 148 RX10 yX10_writes wsX10_writes) := goodIn_app (goodIn_of _ (by decide +kernel)) ggX10_go_X10_writes
theorem dX10_go_0 : decode cX10_go 0 = .ok (.aload_n 0, 1) := by decide +kernel
theorem dX10_go_1 : decode cX10_go 1 = .ok (.iload_n 1, 1) := by decide +kernel
theorem dX10_go_2 : decode cX10_go 2 = .ok (.invokevirtual 152, 3) := by decide +kernel
theorem dX10_go_5 : decode cX10_go 5 = .ok (.ifCond .eq 33, 3) := by decide +kernel
theorem dX10_go_8 : decode cX10_go 8 = .ok (.iload_n 2, 1) := by decide +kernel
theorem dX10_go_9 : decode cX10_go 9 = .ok (.iconst 0, 1) := by decide +kernel
theorem dX10_go_10 : decode cX10_go 10 = .ok (.iconst 2, 1) := by decide +kernel
theorem dX10_go_11 : decode cX10_go 11 = .ok (.invokestatic 108, 3) := by decide +kernel
theorem dX10_go_14 : decode cX10_go 14 = .ok (.ifCond .eq 24, 3) := by decide +kernel
theorem dX10_go_17 : decode cX10_go 17 = .ok (.iload_n 3, 1) := by decide +kernel
theorem dX10_go_18 : decode cX10_go 18 = .ok (.iconst 1, 1) := by decide +kernel
theorem dX10_go_19 : decode cX10_go 19 = .ok (.bipush 50, 2) := by decide +kernel
theorem dX10_go_21 : decode cX10_go 21 = .ok (.invokestatic 108, 3) := by decide +kernel
theorem dX10_go_24 : decode cX10_go 24 = .ok (.ifCond .eq 14, 3) := by decide +kernel
theorem dX10_go_27 : decode cX10_go 27 = .ok (.iload 4, 2) := by decide +kernel
theorem dX10_go_29 : decode cX10_go 29 = .ok (.iconst 1, 1) := by decide +kernel
theorem dX10_go_30 : decode cX10_go 30 = .ok (.bipush 12, 2) := by decide +kernel
theorem dX10_go_32 : decode cX10_go 32 = .ok (.invokestatic 108, 3) := by decide +kernel
theorem dX10_go_35 : decode cX10_go 35 = .ok (.ifCond .ne 6, 3) := by decide +kernel
theorem dX10_go_38 : decode cX10_go 38 = .ok (.bipush (-2), 2) := by decide +kernel
theorem dX10_go_40 : decode cX10_go 40 = .ok (.ireturn, 1) := by decide +kernel
theorem dX10_go_41 : decode cX10_go 41 = .ok (.aload_n 0, 1) := by decide +kernel
theorem dX10_go_42 : decode cX10_go 42 = .ok (.getfield 59, 3) := by decide +kernel
theorem dX10_go_45 : decode cX10_go 45 = .ok (.iload_n 1, 1) := by decide +kernel
theorem dX10_go_46 : decode cX10_go 46 = .ok (.baload, 1) := by decide +kernel
theorem dX10_go_47 : decode cX10_go 47 = .ok (.ifCond .eq 6, 3) := by decide +kernel
theorem dX10_go_50 : decode cX10_go 50 = .ok (.bipush (-3), 2) := by decide +kernel
theorem dX10_go_52 : decode cX10_go 52 = .ok (.ireturn, 1) := by decide +kernel
theorem dX10_go_53 : decode cX10_go 53 = .ok (.aload_n 0, 1) := by decide +kernel
theorem dX10_go_54 : decode cX10_go 54 = .ok (.getfield 66, 3) := by decide +kernel
theorem dX10_go_57 : decode cX10_go 57 = .ok (.iload_n 1, 1) := by decide +kernel
theorem dX10_go_58 : decode cX10_go 58 = .ok (.iaload, 1) := by decide +kernel
theorem dX10_go_59 : decode cX10_go 59 = .ok (.iload 4, 2) := by decide +kernel
theorem dX10_go_61 : decode cX10_go 61 = .ok (.iadd, 1) := by decide +kernel
theorem dX10_go_62 : decode cX10_go 62 = .ok (.bipush 60, 2) := by decide +kernel
theorem dX10_go_64 : decode cX10_go 64 = .ok (.if_icmp .le 6, 3) := by decide +kernel
theorem dX10_go_67 : decode cX10_go 67 = .ok (.bipush (-4), 2) := by decide +kernel
theorem dX10_go_69 : decode cX10_go 69 = .ok (.ireturn, 1) := by decide +kernel
theorem dX10_go_70 : decode cX10_go 70 = .ok (.iconst 0, 1) := by decide +kernel
theorem dX10_go_71 : decode cX10_go 71 = .ok (.istore 5, 2) := by decide +kernel
theorem dX10_go_73 : decode cX10_go 73 = .ok (.iload 5, 2) := by decide +kernel
theorem dX10_go_75 : decode cX10_go 75 = .ok (.iload 4, 2) := by decide +kernel
theorem dX10_go_77 : decode cX10_go 77 = .ok (.if_icmp .ge 138, 3) := by decide +kernel
theorem dX10_go_80 : decode cX10_go 80 = .ok (.aload_n 0, 1) := by decide +kernel
theorem dX10_go_81 : decode cX10_go 81 = .ok (.getfield 59, 3) := by decide +kernel
theorem dX10_go_84 : decode cX10_go 84 = .ok (.iload_n 1, 1) := by decide +kernel
theorem dX10_go_85 : decode cX10_go 85 = .ok (.baload, 1) := by decide +kernel
theorem dX10_go_86 : decode cX10_go 86 = .ok (.ifCond .ne 129, 3) := by decide +kernel
theorem dX10_go_89 : decode cX10_go 89 = .ok (.aload_n 0, 1) := by decide +kernel
theorem dX10_go_90 : decode cX10_go 90 = .ok (.iload_n 1, 1) := by decide +kernel
theorem dX10_go_91 : decode cX10_go 91 = .ok (.invokevirtual 156, 3) := by decide +kernel
theorem dX10_go_94 : decode cX10_go 94 = .ok (.aload_n 0, 1) := by decide +kernel
theorem dX10_go_95 : decode cX10_go 95 = .ok (.iconst 0, 1) := by decide +kernel
theorem dX10_go_96 : decode cX10_go 96 = .ok (.aload_n 0, 1) := by decide +kernel
theorem dX10_go_97 : decode cX10_go 97 = .ok (.getfield 44, 3) := by decide +kernel
theorem dX10_go_100 : decode cX10_go 100 = .ok (.iload_n 1, 1) := by decide +kernel
theorem dX10_go_101 : decode cX10_go 101 = .ok (.iaload, 1) := by decide +kernel
theorem dX10_go_102 : decode cX10_go 102 = .ok (.bipush 24, 2) := by decide +kernel
theorem dX10_go_104 : decode cX10_go 104 = .ok (.irem, 1) := by decide +kernel
theorem dX10_go_105 : decode cX10_go 105 = .ok (.aload_n 0, 1) := by decide +kernel
theorem dX10_go_106 : decode cX10_go 106 = .ok (.getfield 47, 3) := by decide +kernel
theorem dX10_go_109 : decode cX10_go 109 = .ok (.iload_n 1, 1) := by decide +kernel
theorem dX10_go_110 : decode cX10_go 110 = .ok (.iaload, 1) := by decide +kernel
theorem dX10_go_111 : decode cX10_go 111 = .ok (.iload_n 2, 1) := by decide +kernel
theorem dX10_go_112 : decode cX10_go 112 = .ok (.iload_n 3, 1) := by decide +kernel
theorem dX10_go_113 : decode cX10_go 113 = .ok (.invokevirtual 159, 3) := by decide +kernel
theorem dX10_go_116 : decode cX10_go 116 = .ok (.aload_n 0, 1) := by decide +kernel
theorem dX10_go_117 : decode cX10_go 117 = .ok (.getfield 35, 3) := by decide +kernel
theorem dX10_go_120 : decode cX10_go 120 = .ok (.iload_n 1, 1) := by decide +kernel
theorem dX10_go_121 : decode cX10_go 121 = .ok (.aload_n 0, 1) := by decide +kernel
theorem dX10_go_122 : decode cX10_go 122 = .ok (.getfield 138, 3) := by decide +kernel
theorem dX10_go_125 : decode cX10_go 125 = .ok (.iastore, 1) := by decide +kernel
theorem dX10_go_126 : decode cX10_go 126 = .ok (.aload_n 0, 1) := by decide +kernel
theorem dX10_go_127 : decode cX10_go 127 = .ok (.getfield 38, 3) := by decide +kernel
theorem dX10_go_130 : decode cX10_go 130 = .ok (.iload_n 1, 1) := by decide +kernel
theorem dX10_go_131 : decode cX10_go 131 = .ok (.aload_n 0, 1) := by decide +kernel
theorem dX10_go_132 : decode cX10_go 132 = .ok (.getfield 141, 3) := by decide +kernel
theorem dX10_go_135 : decode cX10_go 135 = .ok (.iastore, 1) := by decide +kernel
theorem dX10_go_136 : decode cX10_go 136 = .ok (.aload_n 0, 1) := by decide +kernel
theorem dX10_go_137 : decode cX10_go 137 = .ok (.getfield 41, 3) := by decide +kernel
theorem dX10_go_140 : decode cX10_go 140 = .ok (.iload_n 1, 1) := by decide +kernel
theorem dX10_go_141 : decode cX10_go 141 = .ok (.aload_n 0, 1) := by decide +kernel
theorem dX10_go_142 : decode cX10_go 142 = .ok (.getfield 132, 3) := by decide +kernel
theorem dX10_go_145 : decode cX10_go 145 = .ok (.iastore, 1) := by decide +kernel
theorem dX10_go_146 : decode cX10_go 146 = .ok (.aload_n 0, 1) := by decide +kernel
theorem dX10_go_147 : decode cX10_go 147 = .ok (.getfield 50, 3) := by decide +kernel
theorem dX10_go_150 : decode cX10_go 150 = .ok (.iload_n 1, 1) := by decide +kernel
theorem dX10_go_151 : decode cX10_go 151 = .ok (.aload_n 0, 1) := by decide +kernel
theorem dX10_go_152 : decode cX10_go 152 = .ok (.getfield 129, 3) := by decide +kernel
theorem dX10_go_155 : decode cX10_go 155 = .ok (.iastore, 1) := by decide +kernel
theorem dX10_go_156 : decode cX10_go 156 = .ok (.aload_n 0, 1) := by decide +kernel
theorem dX10_go_157 : decode cX10_go 157 = .ok (.getfield 53, 3) := by decide +kernel
theorem dX10_go_160 : decode cX10_go 160 = .ok (.iload_n 1, 1) := by decide +kernel
theorem dX10_go_161 : decode cX10_go 161 = .ok (.aload_n 0, 1) := by decide +kernel
theorem dX10_go_162 : decode cX10_go 162 = .ok (.getfield 126, 3) := by decide +kernel
theorem dX10_go_165 : decode cX10_go 165 = .ok (.iastore, 1) := by decide +kernel
theorem dX10_go_166 : decode cX10_go 166 = .ok (.aload_n 0, 1) := by decide +kernel
theorem dX10_go_167 : decode cX10_go 167 = .ok (.getfield 56, 3) := by decide +kernel
theorem dX10_go_170 : decode cX10_go 170 = .ok (.iload_n 1, 1) := by decide +kernel
theorem dX10_go_171 : decode cX10_go 171 = .ok (.aload_n 0, 1) := by decide +kernel
theorem dX10_go_172 : decode cX10_go 172 = .ok (.getfield 135, 3) := by decide +kernel
theorem dX10_go_175 : decode cX10_go 175 = .ok (.iastore, 1) := by decide +kernel
theorem dX10_go_176 : decode cX10_go 176 = .ok (.aload_n 0, 1) := by decide +kernel
theorem dX10_go_177 : decode cX10_go 177 = .ok (.getfield 59, 3) := by decide +kernel
theorem dX10_go_180 : decode cX10_go 180 = .ok (.iload_n 1, 1) := by decide +kernel
theorem dX10_go_181 : decode cX10_go 181 = .ok (.aload_n 0, 1) := by decide +kernel
theorem dX10_go_182 : decode cX10_go 182 = .ok (.getfield 132, 3) := by decide +kernel
theorem dX10_go_185 : decode cX10_go 185 = .ok (.ifCond .ne 7, 3) := by decide +kernel
theorem dX10_go_188 : decode cX10_go 188 = .ok (.iconst 1, 1) := by decide +kernel
theorem dX10_go_189 : decode cX10_go 189 = .ok (.goto 4, 3) := by decide +kernel
theorem dX10_go_192 : decode cX10_go 192 = .ok (.iconst 0, 1) := by decide +kernel
theorem dX10_go_193 : decode cX10_go 193 = .ok (.bastore, 1) := by decide +kernel
theorem dX10_go_194 : decode cX10_go 194 = .ok (.aload_n 0, 1) := by decide +kernel
theorem dX10_go_195 : decode cX10_go 195 = .ok (.getfield 44, 3) := by decide +kernel
