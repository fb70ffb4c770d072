theorem dX10_go_198 : decode cX10_go 198 = .ok (.iload_n 1, 1) := by decide +kernel
theorem dX10_go_199 : decode cX10_go 199 = .ok (.dup2, 1) := by decide +kernel
theorem dX10_go_200 : decode cX10_go 200 = .ok (.iaload, 1) := by decide +kernel
theorem dX10_go_201 : decode cX10_go 201 = .ok (.iconst 1, 1) := by decide +kernel
theorem dX10_go_202 : decode cX10_go 202 = .ok (.iadd, 1) := by decide +kernel
theorem dX10_go_203 : decode cX10_go 203 = .ok (.iastore, 1) := by decide +kernel
theorem dX10_go_204 : decode cX10_go 204 = .ok (.aload_n 0, 1) := by decide +kernel
theorem dX10_go_205 : decode cX10_go 205 = .ok (.iload_n 1, 1) := by decide +kernel
theorem dX10_go_206 : decode cX10_go 206 = .ok (.invokevirtual 148, 3) := by decide +kernel
theorem dX10_go_209 : decode cX10_go 209 = .ok (.iinc 5 1, 3) := by decide +kernel
theorem dX10_go_212 : decode cX10_go 212 = .ok (.goto (-139), 3) := by decide +kernel
theorem dX10_go_215 : decode cX10_go 215 = .ok (.iload 5, 2) := by decide +kernel
theorem dX10_go_217 : decode cX10_go 217 = .ok (.ireturn, 1) := by decide +kernel
set_option maxRecDepth 20000 in
theorem ggX10_about_X10_isFlight : GoodIn wsX10_about wsX10_isFlight := goodIn_r _ [18, 19, 20, 21, 17, 22, 23, 24, 25, 26, 27, 28, 29, 30, 31, 32, 33, 34, 35, 36, 37, 38, 39, 40, 41, 42, 43, 44, 45, 46, 47, 48, 49, 50, 51, 52, 53, 54, 55, 56, 57, 58, 59, 60, 61, 62, 63, 64, 65] (by decide +kernel) (by decide +kernel)
set_option maxRecDepth 20000 in
theorem gX10_about_X10_isFlight : GoodIn wsX10_about (wsV RX10 152 RX10 yX10_isFlight wsX10_isFlight) := goodIn_app (goodIn_of _ (by decide +kernel)) ggX10_about_X10_isFlight
theorem dX10_about_0 : decode cX10_about 0 = .ok (.aload_n 0, 1) := by decide +kernel
theorem dX10_about_1 : decode cX10_about 1 = .ok (.iload_n 1, 1) := by decide +kernel
theorem dX10_about_2 : decode cX10_about 2 = .ok (.invokevirtual 152, 3) := by decide +kernel
theorem dX10_about_5 : decode cX10_about 5 = .ok (.ifCond .ne 6, 3) := by decide +kernel
theorem dX10_about_8 : decode cX10_about 8 = .ok (.ldc 163, 2) := by decide +kernel
theorem dX10_about_10 : decode cX10_about 10 = .ok (.ireturn, 1) := by decide +kernel
theorem dX10_about_11 : decode cX10_about 11 = .ok (.iload_n 2, 1) := by decide +kernel
theorem dX10_about_12 : decode cX10_about 12 = .ok (.tableswitch 178 0 9 #[56, 63, 70, 77, 84, 91, 98, 113, 120, 171], 56) := by decide +kernel
theorem dX10_about_68 : decode cX10_about 68 = .ok (.aload_n 0, 1) := by decide +kernel
theorem dX10_about_69 : decode cX10_about 69 = .ok (.getfield 35, 3) := by decide +kernel
theorem dX10_about_72 : decode cX10_about 72 = .ok (.iload_n 1, 1) := by decide +kernel
theorem dX10_about_73 : decode cX10_about 73 = .ok (.iaload, 1) := by decide +kernel
theorem dX10_about_74 : decode cX10_about 74 = .ok (.ireturn, 1) := by decide +kernel
theorem dX10_about_75 : decode cX10_about 75 = .ok (.aload_n 0, 1) := by decide +kernel
theorem dX10_about_76 : decode cX10_about 76 = .ok (.getfield 38, 3) := by decide +kernel
theorem dX10_about_79 : decode cX10_about 79 = .ok (.iload_n 1, 1) := by decide +kernel
theorem dX10_about_80 : decode cX10_about 80 = .ok (.iaload, 1) := by decide +kernel
theorem dX10_about_81 : decode cX10_about 81 = .ok (.ireturn, 1) := by decide +kernel
theorem dX10_about_82 : decode cX10_about 82 = .ok (.aload_n 0, 1) := by decide +kernel
theorem dX10_about_83 : decode cX10_about 83 = .ok (.getfield 41, 3) := by decide +kernel
theorem dX10_about_86 : decode cX10_about 86 = .ok (.iload_n 1, 1) := by decide +kernel
theorem dX10_about_87 : decode cX10_about 87 = .ok (.iaload, 1) := by decide +kernel
theorem dX10_about_88 : decode cX10_about 88 = .ok (.ireturn, 1) := by decide +kernel
theorem dX10_about_89 : decode cX10_about 89 = .ok (.aload_n 0, 1) := by decide +kernel
theorem dX10_about_90 : decode cX10_about 90 = .ok (.getfield 50, 3) := by decide +kernel
theorem dX10_about_93 : decode cX10_about 93 = .ok (.iload_n 1, 1) := by decide +kernel
theorem dX10_about_94 : decode cX10_about 94 = .ok (.iaload, 1) := by decide +kernel
theorem dX10_about_95 : decode cX10_about 95 = .ok (.ireturn, 1) := by decide +kernel
theorem dX10_about_96 : decode cX10_about 96 = .ok (.aload_n 0, 1) := by decide +kernel
theorem dX10_about_97 : decode cX10_about 97 = .ok (.getfield 53, 3) := by decide +kernel
theorem dX10_about_100 : decode cX10_about 100 = .ok (.iload_n 1, 1) := by decide +kernel
theorem dX10_about_101 : decode cX10_about 101 = .ok (.iaload, 1) := by decide +kernel
theorem dX10_about_102 : decode cX10_about 102 = .ok (.ireturn, 1) := by decide +kernel
theorem dX10_about_103 : decode cX10_about 103 = .ok (.aload_n 0, 1) := by decide +kernel
theorem dX10_about_104 : decode cX10_about 104 = .ok (.getfield 44, 3) := by decide +kernel
theorem dX10_about_107 : decode cX10_about 107 = .ok (.iload_n 1, 1) := by decide +kernel
theorem dX10_about_108 : decode cX10_about 108 = .ok (.iaload, 1) := by decide +kernel
theorem dX10_about_109 : decode cX10_about 109 = .ok (.ireturn, 1) := by decide +kernel
theorem dX10_about_110 : decode cX10_about 110 = .ok (.aload_n 0, 1) := by decide +kernel
theorem dX10_about_111 : decode cX10_about 111 = .ok (.getfield 59, 3) := by decide +kernel
theorem dX10_about_114 : decode cX10_about 114 = .ok (.iload_n 1, 1) := by decide +kernel
theorem dX10_about_115 : decode cX10_about 115 = .ok (.baload, 1) := by decide +kernel
theorem dX10_about_116 : decode cX10_about 116 = .ok (.ifCond .eq 7, 3) := by decide +kernel
theorem dX10_about_119 : decode cX10_about 119 = .ok (.iconst 1, 1) := by decide +kernel
theorem dX10_about_120 : decode cX10_about 120 = .ok (.goto 4, 3) := by decide +kernel
theorem dX10_about_123 : decode cX10_about 123 = .ok (.iconst 0, 1) := by decide +kernel
theorem dX10_about_124 : decode cX10_about 124 = .ok (.ireturn, 1) := by decide +kernel
theorem dX10_about_125 : decode cX10_about 125 = .ok (.aload_n 0, 1) := by decide +kernel
theorem dX10_about_126 : decode cX10_about 126 = .ok (.getfield 66, 3) := by decide +kernel
theorem dX10_about_129 : decode cX10_about 129 = .ok (.iload_n 1, 1) := by decide +kernel
theorem dX10_about_130 : decode cX10_about 130 = .ok (.iaload, 1) := by decide +kernel
theorem dX10_about_131 : decode cX10_about 131 = .ok (.ireturn, 1) := by decide +kernel
theorem dX10_about_132 : decode cX10_about 132 = .ok (.aload_n 0, 1) := by decide +kernel
theorem dX10_about_133 : decode cX10_about 133 = .ok (.getfield 50, 3) := by decide +kernel
theorem dX10_about_136 : decode cX10_about 136 = .ok (.iload_n 1, 1) := by decide +kernel
theorem dX10_about_137 : decode cX10_about 137 = .ok (.iaload, 1) := by decide +kernel
theorem dX10_about_138 : decode cX10_about 138 = .ok (.aload_n 0, 1) := by decide +kernel
theorem dX10_about_139 : decode cX10_about 139 = .ok (.getfield 20, 3) := by decide +kernel
theorem dX10_about_142 : decode cX10_about 142 = .ok (.aload_n 0, 1) := by decide +kernel
theorem dX10_about_143 : decode cX10_about 143 = .ok (.getfield 41, 3) := by decide +kernel
theorem dX10_about_146 : decode cX10_about 146 = .ok (.iload_n 1, 1) := by decide +kernel
theorem dX10_about_147 : decode cX10_about 147 = .ok (.iaload, 1) := by decide +kernel
theorem dX10_about_148 : decode cX10_about 148 = .ok (.iaload, 1) := by decide +kernel
theorem dX10_about_149 : decode cX10_about 149 = .ok (.aload_n 0, 1) := by decide +kernel
theorem dX10_about_150 : decode cX10_about 150 = .ok (.getfield 26, 3) := by decide +kernel
theorem dX10_about_153 : decode cX10_about 153 = .ok (.aload_n 0, 1) := by decide +kernel
theorem dX10_about_154 : decode cX10_about 154 = .ok (.getfield 44, 3) := by decide +kernel
theorem dX10_about_157 : decode cX10_about 157 = .ok (.iload_n 1, 1) := by decide +kernel
theorem dX10_about_158 : decode cX10_about 158 = .ok (.iaload, 1) := by decide +kernel
theorem dX10_about_159 : decode cX10_about 159 = .ok (.bipush 24, 2) := by decide +kernel
theorem dX10_about_161 : decode cX10_about 161 = .ok (.irem, 1) := by decide +kernel
theorem dX10_about_162 : decode cX10_about 162 = .ok (.iaload, 1) := by decide +kernel
theorem dX10_about_163 : decode cX10_about 163 = .ok (.iadd, 1) := by decide +kernel
theorem dX10_about_164 : decode cX10_about 164 = .ok (.imul, 1) := by decide +kernel
theorem dX10_about_165 : decode cX10_about 165 = .ok (.bipush 10, 2) := by decide +kernel
theorem dX10_about_167 : decode cX10_about 167 = .ok (.aload_n 0, 1) := by decide +kernel
theorem dX10_about_168 : decode cX10_about 168 = .ok (.getfield 47, 3) := by decide +kernel
theorem dX10_about_171 : decode cX10_about 171 = .ok (.iload_n 1, 1) := by decide +kernel
theorem dX10_about_172 : decode cX10_about 172 = .ok (.iaload, 1) := by decide +kernel
theorem dX10_about_173 : decode cX10_about 173 = .ok (.aload_n 0, 1) := by decide +kernel
theorem dX10_about_174 : decode cX10_about 174 = .ok (.getfield 53, 3) := by decide +kernel
theorem dX10_about_177 : decode cX10_about 177 = .ok (.iload_n 1, 1) := by decide +kernel
theorem dX10_about_178 : decode cX10_about 178 = .ok (.iaload, 1) := by decide +kernel
theorem dX10_about_179 : decode cX10_about 179 = .ok (.iadd, 1) := by decide +kernel
theorem dX10_about_180 : decode cX10_about 180 = .ok (.imul, 1) := by decide +kernel
theorem dX10_about_181 : decode cX10_about 181 = .ok (.isub, 1) := by decide +kernel
theorem dX10_about_182 : decode cX10_about 182 = .ok (.ireturn, 1) := by decide +kernel
theorem dX10_about_183 : decode cX10_about 183 = .ok (.aload_n 0, 1) := by decide +kernel
theorem dX10_about_184 : decode cX10_about 184 = .ok (.getfield 56, 3) := by decide +kernel
theorem dX10_about_187 : decode cX10_about 187 = .ok (.iload_n 1, 1) := by decide +kernel
theorem dX10_about_188 : decode cX10_about 188 = .ok (.iaload, 1) := by decide +kernel
theorem dX10_about_189 : decode cX10_about 189 = .ok (.ireturn, 1) := by decide +kernel
theorem dX10_about_190 : decode cX10_about 190 = .ok (.ldc 163, 2) := by decide +kernel
theorem dX10_about_192 : decode cX10_about 192 = .ok (.ireturn, 1) := by decide +kernel
theorem dX10_distanceOf_0 : decode cX10_distanceOf 0 = .ok (.sipush 10000, 3) := by decide +kernel
theorem dX10_distanceOf_3 : decode cX10_distanceOf 3 = .ok (.iload_n 0, 1) := by decide +kernel
theorem dX10_distanceOf_4 : decode cX10_distanceOf 4 = .ok (.iload_n 0, 1) := by decide +kernel
theorem dX10_distanceOf_5 : decode cX10_distanceOf 5 = .ok (.imul, 1) := by decide +kernel
theorem dX10_distanceOf_6 : decode cX10_distanceOf 6 = .ok (.iload_n 1, 1) := by decide +kernel
theorem dX10_distanceOf_7 : decode cX10_distanceOf 7 = .ok (.iload_n 1, 1) := by decide +kernel
theorem dX10_distanceOf_8 : decode cX10_distanceOf 8 = .ok (.imul, 1) := by decide +kernel
theorem dX10_distanceOf_9 : decode cX10_distanceOf 9 = .ok (.iadd, 1) := by decide +kernel
theorem dX10_distanceOf_10 : decode cX10_distanceOf 10 = .ok (.imul, 1) := by decide +kernel
theorem dX10_distanceOf_11 : decode cX10_distanceOf 11 = .ok (.istore_n 2, 1) := by decide +kernel
theorem dX10_distanceOf_12 : decode cX10_distanceOf 12 = .ok (.iconst 0, 1) := by decide +kernel
theorem dX10_distanceOf_13 : decode cX10_distanceOf 13 = .ok (.istore_n 3, 1) := by decide +kernel
theorem dX10_distanceOf_14 : decode cX10_distanceOf 14 = .ok (.iload_n 3, 1) := by decide +kernel
theorem dX10_distanceOf_15 : decode cX10_distanceOf 15 = .ok (.iconst 1, 1) := by decide +kernel
theorem dX10_distanceOf_16 : decode cX10_distanceOf 16 = .ok (.iadd, 1) := by decide +kernel
theorem dX10_distanceOf_17 : decode cX10_distanceOf 17 = .ok (.iload_n 3, 1) := by decide +kernel
theorem dX10_distanceOf_18 : decode cX10_distanceOf 18 = .ok (.iconst 1, 1) := by decide +kernel
theorem dX10_distanceOf_19 : decode cX10_distanceOf 19 = .ok (.iadd, 1) := by decide +kernel
theorem dX10_distanceOf_20 : decode cX10_distanceOf 20 = .ok (.imul, 1) := by decide +kernel
theorem dX10_distanceOf_21 : decode cX10_distanceOf 21 = .ok (.iload_n 2, 1) := by decide +kernel
theorem dX10_distanceOf_22 : decode cX10_distanceOf 22 = .ok (.if_icmp .gt 9, 3) := by decide +kernel
theorem dX10_distanceOf_25 : decode cX10_distanceOf 25 = .ok (.iinc 3 1, 3) := by decide +kernel
theorem dX10_distanceOf_28 : decode cX10_distanceOf 28 = .ok (.goto (-14), 3) := by decide +kernel
theorem dX10_distanceOf_31 : decode cX10_distanceOf 31 = .ok (.iload_n 3, 1) := by decide +kernel
theorem dX10_distanceOf_32 : decode cX10_distanceOf 32 = .ok (.ireturn, 1) := by decide +kernel
set_option maxRecDepth 20000 in
theorem ggX10_distanceFlown_X10_distanceOf : GoodIn wsX10_distanceFlown wsX10_distanceOf := goodIn_r _ [7] (by decide +kernel) (by decide +kernel)
set_option maxRecDepth 20000 in
theorem gX10_distanceFlown_X10_distanceOf : GoodIn wsX10_distanceFlown (va_wsS RX10 164 yX10_distanceOf wsX10_distanceOf) := goodIn_app (goodIn_of _ (by decide +kernel)) ggX10_distanceFlown_X10_distanceOf
theorem dX10_distanceFlown_0 : decode cX10_distanceFlown 0 = .ok (.aload_n 0, 1) := by decide +kernel
theorem dX10_distanceFlown_1 : decode cX10_distanceFlown 1 = .ok (.getfield 35, 3) := by decide +kernel
theorem dX10_distanceFlown_4 : decode cX10_distanceFlown 4 = .ok (.iload_n 1, 1) := by decide +kernel
theorem dX10_distanceFlown_5 : decode cX10_distanceFlown 5 = .ok (.iaload, 1) := by decide +kernel
theorem dX10_distanceFlown_6 : decode cX10_distanceFlown 6 = .ok (.aload_n 0, 1) := by decide +kernel
theorem dX10_distanceFlown_7 : decode cX10_distanceFlown 7 = .ok (.getfield 69, 3) := by decide +kernel
theorem dX10_distanceFlown_10 : decode cX10_distanceFlown 10 = .ok (.bipush 61, 2) := by decide +kernel
theorem dX10_distanceFlown_12 : decode cX10_distanceFlown 12 = .ok (.iload_n 1, 1) := by decide +kernel
theorem dX10_distanceFlown_13 : decode cX10_distanceFlown 13 = .ok (.imul, 1) := by decide +kernel
theorem dX10_distanceFlown_14 : decode cX10_distanceFlown 14 = .ok (.iaload, 1) := by decide +kernel
theorem dX10_distanceFlown_15 : decode cX10_distanceFlown 15 = .ok (.bipush 24, 2) := by decide +kernel
theorem dX10_distanceFlown_17 : decode cX10_distanceFlown 17 = .ok (.irem, 1) := by decide +kernel
theorem dX10_distanceFlown_18 : decode cX10_distanceFlown 18 = .ok (.isub, 1) := by decide +kernel
theorem dX10_distanceFlown_19 : decode cX10_distanceFlown 19 = .ok (.aload_n 0, 1) := by decide +kernel
theorem dX10_distanceFlown_20 : decode cX10_distanceFlown 20 = .ok (.getfield 38, 3) := by decide +kernel
theorem dX10_distanceFlown_23 : decode cX10_distanceFlown 23 = .ok (.iload_n 1, 1) := by decide +kernel
theorem dX10_distanceFlown_24 : decode cX10_distanceFlown 24 = .ok (.iaload, 1) := by decide +kernel
theorem dX10_distanceFlown_25 : decode cX10_distanceFlown 25 = .ok (.aload_n 0, 1) := by decide +kernel
theorem dX10_distanceFlown_26 : decode cX10_distanceFlown 26 = .ok (.getfield 69, 3) := by decide +kernel
theorem dX10_distanceFlown_29 : decode cX10_distanceFlown 29 = .ok (.bipush 61, 2) := by decide +kernel
theorem dX10_distanceFlown_31 : decode cX10_distanceFlown 31 = .ok (.iload_n 1, 1) := by decide +kernel
theorem dX10_distanceFlown_32 : decode cX10_distanceFlown 32 = .ok (.imul, 1) := by decide +kernel
theorem dX10_distanceFlown_33 : decode cX10_distanceFlown 33 = .ok (.iaload, 1) := by decide +kernel
theorem dX10_distanceFlown_34 : decode cX10_distanceFlown 34 = .ok (.bipush 24, 2) := by decide +kernel
theorem dX10_distanceFlown_36 : decode cX10_distanceFlown 36 = .ok (.idiv, 1) := by decide +kernel
theorem dX10_distanceFlown_37 : decode cX10_distanceFlown 37 = .ok (.isub, 1) := by decide +kernel
theorem dX10_distanceFlown_38 : decode cX10_distanceFlown 38 = .ok (.invokestatic 164, 3) := by decide +kernel
theorem dX10_distanceFlown_41 : decode cX10_distanceFlown 41 = .ok (.ireturn, 1) := by decide +kernel
set_option maxRecDepth 20000 in
theorem ggX10_distance_X10_isFlight : GoodIn wsX10_distance wsX10_isFlight := goodIn_r _ [5, 6, 7, 8, 4, 9, 20, 21, 22, 23, 24, 25, 26, 27, 28, 29, 30, 31, 32, 33, 34, 35, 36, 37, 38, 39, 40, 41, 42, 43, 44, 45, 46, 47, 48, 49, 50, 51, 52, 53, 54, 55, 56, 57, 58, 59, 60, 61, 62] (by decide +kernel) (by decide +kernel)
set_option maxRecDepth 20000 in
theorem gX10_distance_X10_isFlight : GoodIn wsX10_distance (wsV RX10 152 RX10 yX10_isFlight wsX10_isFlight) := goodIn_app (goodIn_of _ (by decide +kernel)) ggX10_distance_X10_isFlight
set_option maxRecDepth 20000 in
theorem ggX10_distance_X10_distanceFlown : GoodIn wsX10_distance wsX10_distanceFlown := goodIn_r _ [13, 14, 15, 16, 17, 18, 4, 19, 20, 21, 22, 23, 24, 25, 26, 27, 28, 29, 30, 31, 32, 33, 34, 35, 36, 37, 38, 39, 40, 41, 42, 43, 44, 45, 46, 47, 48, 49, 50, 51, 52, 53, 54, 55, 56, 57, 58, 59, 60, 61, 62] (by decide +kernel) (by decide +kernel)
set_option maxRecDepth 20000 in
theorem gX10_distance_X10_distanceFlown : GoodIn wsX10_distance (wsV RX10 168 RX10 yX10_distanceFlown wsX10_distanceFlown) := goodIn_app (goodIn_of _ (by decide +kernel)) ggX10_distance_X10_distanceFlown
theorem dX10_distance_0 : decode cX10_distance 0 = .ok (.aload_n 0, 1) := by decide +kernel
theorem dX10_distance_1 : decode cX10_distance 1 = .ok (.iload_n 1, 1) := by decide +kernel
theorem dX10_distance_2 : decode cX10_distance 2 = .ok (.invokevirtual 152, 3) := by decide +kernel
theorem dX10_distance_5 : decode cX10_distance 5 = .ok (.ifCond .eq 11, 3) := by decide +kernel
theorem dX10_distance_8 : decode cX10_distance 8 = .ok (.aload_n 0, 1) := by decide +kernel
theorem dX10_distance_9 : decode cX10_distance 9 = .ok (.iload_n 1, 1) := by decide +kernel
theorem dX10_distance_10 : decode cX10_distance 10 = .ok (.invokevirtual 168, 3) := by decide +kernel
theorem dX10_distance_13 : decode cX10_distance 13 = .ok (.goto 5, 3) := by decide +kernel
theorem dX10_distance_16 : decode cX10_distance 16 = .ok (.bipush (-2), 2) := by decide +kernel
theorem dX10_distance_18 : decode cX10_distance 18 = .ok (.ireturn, 1) := by decide +kernel
set_option maxRecDepth 20000 in
theorem ggX10_planned_X10_flown : GoodIn wsX10_planned wsX10_flown := goodIn_r _ [7, 8, 9, 10, 11, 12, 13, 14, 15, 16, 6, 17, 18, 19, 20, 21, 22, 23, 24, 25, 26, 27, 28, 29, 30, 31, 32, 33, 34, 35, 36, 37, 38, 39, 40, 41, 42, 43, 44, 45, 46, 47, 48, 49, 50, 51, 52, 53, 54, 55, 56, 57, 58, 59, 60, 61, 62, 63, 64, 65, 66, 67, 68, 69, 70, 71, 72, 73, 74, 75, 76, 77, 78, 79, 80, 81, 82, 83, 84, 85, 86, 87, 88, 89, 90, 91, 92, 93, 94] (by decide +kernel) (by decide +kernel)
set_option maxRecDepth 20000 in
theorem gX10_planned_X10_flown : GoodIn wsX10_planned (wsV RX10 172 RX10 yX10_flown wsX10_flown) := goodIn_app (goodIn_of _ (by decide +kernel)) ggX10_planned_X10_flown
theorem dX10_planned_0 : decode cX10_planned 0 = .ok (.iconst 1, 1) := by decide +kernel
theorem dX10_planned_1 : decode cX10_planned 1 = .ok (.istore 7, 2) := by decide +kernel
theorem dX10_planned_3 : decode cX10_planned 3 = .ok (.iconst 0, 1) := by decide +kernel
theorem dX10_planned_4 : decode cX10_planned 4 = .ok (.istore 8, 2) := by decide +kernel
theorem dX10_planned_6 : decode cX10_planned 6 = .ok (.iload 8, 2) := by decide +kernel
theorem dX10_planned_8 : decode cX10_planned 8 = .ok (.iload_n 2, 1) := by decide +kernel
theorem dX10_planned_9 : decode cX10_planned 9 = .ok (.if_icmp .ge 15, 3) := by decide +kernel
theorem dX10_planned_12 : decode cX10_planned 12 = .ok (.iconst 3, 1) := by decide +kernel
theorem dX10_planned_13 : decode cX10_planned 13 = .ok (.iload 7, 2) := by decide +kernel
theorem dX10_planned_15 : decode cX10_planned 15 = .ok (.imul, 1) := by decide +kernel
theorem dX10_planned_16 : decode cX10_planned 16 = .ok (.istore 7, 2) := by decide +kernel
theorem dX10_planned_18 : decode cX10_planned 18 = .ok (.iinc 8 1, 3) := by decide +kernel
theorem dX10_planned_21 : decode cX10_planned 21 = .ok (.goto (-15), 3) := by decide +kernel
theorem dX10_planned_24 : decode cX10_planned 24 = .ok (.iconst (-1), 1) := by decide +kernel
theorem dX10_planned_25 : decode cX10_planned 25 = .ok (.istore 8, 2) := by decide +kernel
theorem dX10_planned_27 : decode cX10_planned 27 = .ok (.iconst (-1), 1) := by decide +kernel
theorem dX10_planned_28 : decode cX10_planned 28 = .ok (.istore 9, 2) := by decide +kernel
theorem dX10_planned_30 : decode cX10_planned 30 = .ok (.iconst 0, 1) := by decide +kernel
theorem dX10_planned_31 : decode cX10_planned 31 = .ok (.istore 10, 2) := by decide +kernel
theorem dX10_planned_33 : decode cX10_planned 33 = .ok (.iload 10, 2) := by decide +kernel
theorem dX10_planned_35 : decode cX10_planned 35 = .ok (.iload 7, 2) := by decide +kernel
theorem dX10_planned_37 : decode cX10_planned 37 = .ok (.if_icmp .ge 68, 3) := by decide +kernel
theorem dX10_planned_40 : decode cX10_planned 40 = .ok (.aload_n 0, 1) := by decide +kernel
theorem dX10_planned_41 : decode cX10_planned 41 = .ok (.iload_n 1, 1) := by decide +kernel
theorem dX10_planned_42 : decode cX10_planned 42 = .ok (.iload_n 2, 1) := by decide +kernel
theorem dX10_planned_43 : decode cX10_planned 43 = .ok (.iload_n 3, 1) := by decide +kernel
theorem dX10_planned_44 : decode cX10_planned 44 = .ok (.iload 10, 2) := by decide +kernel
theorem dX10_planned_46 : decode cX10_planned 46 = .ok (.iload 7, 2) := by decide +kernel
theorem dX10_planned_48 : decode cX10_planned 48 = .ok (.iload 4, 2) := by decide +kernel
theorem dX10_planned_50 : decode cX10_planned 50 = .ok (.iload 5, 2) := by decide +kernel
theorem dX10_planned_52 : decode cX10_planned 52 = .ok (.invokevirtual 172, 3) := by decide +kernel
theorem dX10_planned_55 : decode cX10_planned 55 = .ok (.istore 11, 2) := by decide +kernel
theorem dX10_planned_57 : decode cX10_planned 57 = .ok (.iload 11, 2) := by decide +kernel
theorem dX10_planned_59 : decode cX10_planned 59 = .ok (.iconst (-1), 1) := by decide +kernel
theorem dX10_planned_60 : decode cX10_planned 60 = .ok (.if_icmp .eq 39, 3) := by decide +kernel
theorem dX10_planned_63 : decode cX10_planned 63 = .ok (.iload 8, 2) := by decide +kernel
theorem dX10_planned_65 : decode cX10_planned 65 = .ok (.iconst (-1), 1) := by decide +kernel
theorem dX10_planned_66 : decode cX10_planned 66 = .ok (.if_icmp .eq 25, 3) := by decide +kernel
theorem dX10_planned_69 : decode cX10_planned 69 = .ok (.iload 6, 2) := by decide +kernel
theorem dX10_planned_71 : decode cX10_planned 71 = .ok (.ifCond .eq 13, 3) := by decide +kernel
theorem dX10_planned_74 : decode cX10_planned 74 = .ok (.iload 11, 2) := by decide +kernel
theorem dX10_planned_76 : decode cX10_planned 76 = .ok (.iload 8, 2) := by decide +kernel
theorem dX10_planned_78 : decode cX10_planned 78 = .ok (.if_icmp .le 21, 3) := by decide +kernel
theorem dX10_planned_81 : decode cX10_planned 81 = .ok (.goto 10, 3) := by decide +kernel
theorem dX10_planned_84 : decode cX10_planned 84 = .ok (.iload 11, 2) := by decide +kernel
theorem dX10_planned_86 : decode cX10_planned 86 = .ok (.iload 8, 2) := by decide +kernel
theorem dX10_planned_88 : decode cX10_planned 88 = .ok (.if_icmp .ge 11, 3) := by decide +kernel
theorem dX10_planned_91 : decode cX10_planned 91 = .ok (.iload 11, 2) := by decide +kernel
theorem dX10_planned_93 : decode cX10_planned 93 = .ok (.istore 8, 2) := by decide +kernel
theorem dX10_planned_95 : decode cX10_planned 95 = .ok (.iload 10, 2) := by decide +kernel
theorem dX10_planned_97 : decode cX10_planned 97 = .ok (.istore 9, 2) := by decide +kernel
theorem dX10_planned_99 : decode cX10_planned 99 = .ok (.iinc 10 1, 3) := by decide +kernel
theorem dX10_planned_102 : decode cX10_planned 102 = .ok (.goto (-69), 3) := by decide +kernel
theorem dX10_planned_105 : decode cX10_planned 105 = .ok (.iload 8, 2) := by decide +kernel
theorem dX10_planned_107 : decode cX10_planned 107 = .ok (.iconst (-1), 1) := by decide +kernel
theorem dX10_planned_108 : decode cX10_planned 108 = .ok (.if_icmp .ne 5, 3) := by decide +kernel
theorem dX10_planned_111 : decode cX10_planned 111 = .ok (.iconst (-1), 1) := by decide +kernel
theorem dX10_planned_112 : decode cX10_planned 112 = .ok (.ireturn, 1) := by decide +kernel
theorem dX10_planned_113 : decode cX10_planned 113 = .ok (.aload_n 0, 1) := by decide +kernel
theorem dX10_planned_114 : decode cX10_planned 114 = .ok (.iload_n 2, 1) := by decide +kernel
theorem dX10_planned_115 : decode cX10_planned 115 = .ok (.putfield 176, 3) := by decide +kernel
theorem dX10_planned_118 : decode cX10_planned 118 = .ok (.iload_n 2, 1) := by decide +kernel
theorem dX10_planned_119 : decode cX10_planned 119 = .ok (.iconst 1, 1) := by decide +kernel
theorem dX10_planned_120 : decode cX10_planned 120 = .ok (.isub, 1) := by decide +kernel
theorem dX10_planned_121 : decode cX10_planned 121 = .ok (.istore 10, 2) := by decide +kernel
theorem dX10_planned_123 : decode cX10_planned 123 = .ok (.iload 10, 2) := by decide +kernel
theorem dX10_planned_125 : decode cX10_planned 125 = .ok (.ifCond .lt 26, 3) := by decide +kernel
theorem dX10_planned_128 : decode cX10_planned 128 = .ok (.aload_n 0, 1) := by decide +kernel
theorem dX10_planned_129 : decode cX10_planned 129 = .ok (.getfield 87, 3) := by decide +kernel
theorem dX10_planned_132 : decode cX10_planned 132 = .ok (.iload 10, 2) := by decide +kernel
theorem dX10_planned_134 : decode cX10_planned 134 = .ok (.iload 9, 2) := by decide +kernel
theorem dX10_planned_136 : decode cX10_planned 136 = .ok (.iconst 3, 1) := by decide +kernel
theorem dX10_planned_137 : decode cX10_planned 137 = .ok (.irem, 1) := by decide +kernel
theorem dX10_planned_138 : decode cX10_planned 138 = .ok (.iastore, 1) := by decide +kernel
theorem dX10_planned_139 : decode cX10_planned 139 = .ok (.iload 9, 2) := by decide +kernel
theorem dX10_planned_141 : decode cX10_planned 141 = .ok (.iconst 3, 1) := by decide +kernel
theorem dX10_planned_142 : decode cX10_planned 142 = .ok (.idiv, 1) := by decide +kernel
theorem dX10_planned_143 : decode cX10_planned 143 = .ok (.istore 9, 2) := by decide +kernel
theorem dX10_planned_145 : decode cX10_planned 145 = .ok (.iinc 10 (-1), 3) := by decide +kernel
theorem dX10_planned_148 : decode cX10_planned 148 = .ok (.goto (-25), 3) := by decide +kernel
theorem dX10_planned_151 : decode cX10_planned 151 = .ok (.iload 8, 2) := by decide +kernel
theorem dX10_planned_153 : decode cX10_planned 153 = .ok (.ireturn, 1) := by decide +kernel
set_option maxRecDepth 20000 in
theorem ggX10_flown_X10_begin : GoodIn wsX10_flown wsX10_begin := goodIn_r _ [11, 12, 6, 13, 5, 14, 3, 15, 16, 17, 18, 19, 20, 46, 47, 48, 49, 50, 51, 52, 53, 54, 55, 56, 57, 58, 59, 60, 61, 62, 63, 64, 65, 66, 67, 68, 69, 70, 71, 72, 73, 74, 75, 76, 77, 78, 79, 80, 81, 82, 83, 84, 85, 86, 87, 88] (by decide +kernel) (by decide +kernel)
set_option maxRecDepth 20000 in
theorem gX10_flown_X10_begin : GoodIn wsX10_flown (wsV RX10 156 RX10 yX10_begin wsX10_begin) := goodIn_app (goodIn_of _ (by decide +kernel)) ggX10_flown_X10_begin
set_option maxRecDepth 20000 in
theorem ggX10_flown_X10_tick : GoodIn wsX10_flown wsX10_tick := goodIn_r _ [24, 18, 16, 25, 3, 26, 27, 20, 6, 5, 28, 29, 30, 10, 31, 32, 33, 34, 35, 36, 37, 38, 39, 40, 41, 42, 43, 44, 45, 46, 47, 48, 49, 50, 51, 52, 53, 54, 55, 56, 57, 58, 59, 60, 61, 62, 63, 64, 65, 66, 67, 68, 69, 70, 71, 72, 73, 74, 75, 76, 77, 78, 79, 80, 81, 82, 83, 84, 85, 86, 87, 88] (by decide +kernel) (by decide +kernel)
set_option maxRecDepth 20000 in
theorem gX10_flown_X10_tick : GoodIn wsX10_flown (wsV RX10 159 RX10 yX10_tick wsX10_tick) := goodIn_app (goodIn_of _ (by decide +kernel)) ggX10_flown_X10_tick
theorem dX10_flown_0 : decode cX10_flown 0 = .ok (.aload_n 0, 1) := by decide +kernel
theorem dX10_flown_1 : decode cX10_flown 1 = .ok (.iload_n 1, 1) := by decide +kernel
theorem dX10_flown_2 : decode cX10_flown 2 = .ok (.invokevirtual 156, 3) := by decide +kernel
theorem dX10_flown_5 : decode cX10_flown 5 = .ok (.iload 5, 2) := by decide +kernel
theorem dX10_flown_7 : decode cX10_flown 7 = .ok (.istore 8, 2) := by decide +kernel
theorem dX10_flown_9 : decode cX10_flown 9 = .ok (.iconst 0, 1) := by decide +kernel
theorem dX10_flown_10 : decode cX10_flown 10 = .ok (.istore 9, 2) := by decide +kernel
theorem dX10_flown_12 : decode cX10_flown 12 = .ok (.iconst 0, 1) := by decide +kernel
theorem dX10_flown_13 : decode cX10_flown 13 = .ok (.istore 10, 2) := by decide +kernel
theorem dX10_flown_15 : decode cX10_flown 15 = .ok (.iload 10, 2) := by decide +kernel
theorem dX10_flown_17 : decode cX10_flown 17 = .ok (.iload_n 2, 1) := by decide +kernel
theorem dX10_flown_18 : decode cX10_flown 18 = .ok (.if_icmp .ge 114, 3) := by decide +kernel
theorem dX10_flown_21 : decode cX10_flown 21 = .ok (.iload 8, 2) := by decide +kernel
theorem dX10_flown_23 : decode cX10_flown 23 = .ok (.iconst 3, 1) := by decide +kernel
theorem dX10_flown_24 : decode cX10_flown 24 = .ok (.idiv, 1) := by decide +kernel
theorem dX10_flown_25 : decode cX10_flown 25 = .ok (.istore 8, 2) := by decide +kernel
theorem dX10_flown_27 : decode cX10_flown 27 = .ok (.iload 4, 2) := by decide +kernel
theorem dX10_flown_29 : decode cX10_flown 29 = .ok (.iload 8, 2) := by decide +kernel
theorem dX10_flown_31 : decode cX10_flown 31 = .ok (.idiv, 1) := by decide +kernel
theorem dX10_flown_32 : decode cX10_flown 32 = .ok (.iconst 3, 1) := by decide +kernel
theorem dX10_flown_33 : decode cX10_flown 33 = .ok (.irem, 1) := by decide +kernel
theorem dX10_flown_34 : decode cX10_flown 34 = .ok (.istore 11, 2) := by decide +kernel
theorem dX10_flown_36 : decode cX10_flown 36 = .ok (.iload 9, 2) := by decide +kernel
theorem dX10_flown_38 : decode cX10_flown 38 = .ok (.ifCond .eq 10, 3) := by decide +kernel
theorem dX10_flown_41 : decode cX10_flown 41 = .ok (.iload 11, 2) := by decide +kernel
theorem dX10_flown_43 : decode cX10_flown 43 = .ok (.ifCond .eq 83, 3) := by decide +kernel
theorem dX10_flown_46 : decode cX10_flown 46 = .ok (.iconst (-1), 1) := by decide +kernel
theorem dX10_flown_47 : decode cX10_flown 47 = .ok (.ireturn, 1) := by decide +kernel
theorem dX10_flown_48 : decode cX10_flown 48 = .ok (.aload_n 0, 1) := by decide +kernel
theorem dX10_flown_49 : decode cX10_flown 49 = .ok (.iconst 1, 1) := by decide +kernel
theorem dX10_flown_50 : decode cX10_flown 50 = .ok (.aload_n 0, 1) := by decide +kernel
theorem dX10_flown_51 : decode cX10_flown 51 = .ok (.getfield 44, 3) := by decide +kernel
theorem dX10_flown_54 : decode cX10_flown 54 = .ok (.iload_n 1, 1) := by decide +kernel
theorem dX10_flown_55 : decode cX10_flown 55 = .ok (.iaload, 1) := by decide +kernel
theorem dX10_flown_56 : decode cX10_flown 56 = .ok (.iload 10, 2) := by decide +kernel
theorem dX10_flown_58 : decode cX10_flown 58 = .ok (.iadd, 1) := by decide +kernel
theorem dX10_flown_59 : decode cX10_flown 59 = .ok (.bipush 24, 2) := by decide +kernel
theorem dX10_flown_61 : decode cX10_flown 61 = .ok (.irem, 1) := by decide +kernel
theorem dX10_flown_62 : decode cX10_flown 62 = .ok (.aload_n 0, 1) := by decide +kernel
theorem dX10_flown_63 : decode cX10_flown 63 = .ok (.getfield 47, 3) := by decide +kernel
theorem dX10_flown_66 : decode cX10_flown 66 = .ok (.iload_n 1, 1) := by decide +kernel
theorem dX10_flown_67 : decode cX10_flown 67 = .ok (.iaload, 1) := by decide +kernel
theorem dX10_flown_68 : decode cX10_flown 68 = .ok (.iload 11, 2) := by decide +kernel
theorem dX10_flown_70 : decode cX10_flown 70 = .ok (.iload_n 3, 1) := by decide +kernel
theorem dX10_flown_71 : decode cX10_flown 71 = .ok (.invokevirtual 159, 3) := by decide +kernel
theorem dX10_flown_74 : decode cX10_flown 74 = .ok (.aload_n 0, 1) := by decide +kernel
theorem dX10_flown_75 : decode cX10_flown 75 = .ok (.getfield 132, 3) := by decide +kernel
theorem dX10_flown_78 : decode cX10_flown 78 = .ok (.ifCond .ne 7, 3) := by decide +kernel
theorem dX10_flown_81 : decode cX10_flown 81 = .ok (.iconst 1, 1) := by decide +kernel
theorem dX10_flown_82 : decode cX10_flown 82 = .ok (.goto 4, 3) := by decide +kernel
theorem dX10_flown_85 : decode cX10_flown 85 = .ok (.iconst 0, 1) := by decide +kernel
theorem dX10_flown_86 : decode cX10_flown 86 = .ok (.istore 9, 2) := by decide +kernel
theorem dX10_flown_88 : decode cX10_flown 88 = .ok (.aload_n 0, 1) := by decide +kernel
theorem dX10_flown_89 : decode cX10_flown 89 = .ok (.getfield 16, 3) := by decide +kernel
theorem dX10_flown_92 : decode cX10_flown 92 = .ok (.bipush 24, 2) := by decide +kernel
theorem dX10_flown_94 : decode cX10_flown 94 = .ok (.aload_n 0, 1) := by decide +kernel
theorem dX10_flown_95 : decode cX10_flown 95 = .ok (.getfield 141, 3) := by decide +kernel
theorem dX10_flown_98 : decode cX10_flown 98 = .ok (.imul, 1) := by decide +kernel
theorem dX10_flown_99 : decode cX10_flown 99 = .ok (.aload_n 0, 1) := by decide +kernel
theorem dX10_flown_100 : decode cX10_flown 100 = .ok (.getfield 138, 3) := by decide +kernel
theorem dX10_flown_103 : decode cX10_flown 103 = .ok (.iadd, 1) := by decide +kernel
theorem dX10_flown_104 : decode cX10_flown 104 = .ok (.iaload, 1) := by decide +kernel
theorem dX10_flown_105 : decode cX10_flown 105 = .ok (.istore 12, 2) := by decide +kernel
theorem dX10_flown_107 : decode cX10_flown 107 = .ok (.iload 12, 2) := by decide +kernel
theorem dX10_flown_109 : decode cX10_flown 109 = .ok (.iconst 2, 1) := by decide +kernel
theorem dX10_flown_110 : decode cX10_flown 110 = .ok (.if_icmp .eq 14, 3) := by decide +kernel
theorem dX10_flown_113 : decode cX10_flown 113 = .ok (.iload 9, 2) := by decide +kernel
theorem dX10_flown_115 : decode cX10_flown 115 = .ok (.ifCond .eq 11, 3) := by decide +kernel
theorem dX10_flown_118 : decode cX10_flown 118 = .ok (.iload 12, 2) := by decide +kernel
theorem dX10_flown_120 : decode cX10_flown 120 = .ok (.iconst 1, 1) := by decide +kernel
theorem dX10_flown_121 : decode cX10_flown 121 = .ok (.if_icmp .ne 5, 3) := by decide +kernel
theorem dX10_flown_124 : decode cX10_flown 124 = .ok (.iconst (-1), 1) := by decide +kernel
theorem dX10_flown_125 : decode cX10_flown 125 = .ok (.ireturn, 1) := by decide +kernel
theorem dX10_flown_126 : decode cX10_flown 126 = .ok (.iinc 10 1, 3) := by decide +kernel
theorem dX10_flown_129 : decode cX10_flown 129 = .ok (.goto (-114), 3) := by decide +kernel
theorem dX10_flown_132 : decode cX10_flown 132 = .ok (.aload_n 0, 1) := by decide +kernel
theorem dX10_flown_133 : decode cX10_flown 133 = .ok (.getfield 138, 3) := by decide +kernel
theorem dX10_flown_136 : decode cX10_flown 136 = .ok (.iload 6, 2) := by decide +kernel
theorem dX10_flown_138 : decode cX10_flown 138 = .ok (.isub, 1) := by decide +kernel
theorem dX10_flown_139 : decode cX10_flown 139 = .ok (.aload_n 0, 1) := by decide +kernel
theorem dX10_flown_140 : decode cX10_flown 140 = .ok (.getfield 138, 3) := by decide +kernel
theorem dX10_flown_143 : decode cX10_flown 143 = .ok (.iload 6, 2) := by decide +kernel
theorem dX10_flown_145 : decode cX10_flown 145 = .ok (.isub, 1) := by decide +kernel
theorem dX10_flown_146 : decode cX10_flown 146 = .ok (.imul, 1) := by decide +kernel
theorem dX10_flown_147 : decode cX10_flown 147 = .ok (.aload_n 0, 1) := by decide +kernel
theorem dX10_flown_148 : decode cX10_flown 148 = .ok (.getfield 141, 3) := by decide +kernel
theorem dX10_flown_151 : decode cX10_flown 151 = .ok (.iload 7, 2) := by decide +kernel
theorem dX10_flown_153 : decode cX10_flown 153 = .ok (.isub, 1) := by decide +kernel
theorem dX10_flown_154 : decode cX10_flown 154 = .ok (.aload_n 0, 1) := by decide +kernel
theorem dX10_flown_155 : decode cX10_flown 155 = .ok (.getfield 141, 3) := by decide +kernel
theorem dX10_flown_158 : decode cX10_flown 158 = .ok (.iload 7, 2) := by decide +kernel
theorem dX10_flown_160 : decode cX10_flown 160 = .ok (.isub, 1) := by decide +kernel
theorem dX10_flown_161 : decode cX10_flown 161 = .ok (.imul, 1) := by decide +kernel
theorem dX10_flown_162 : decode cX10_flown 162 = .ok (.iadd, 1) := by decide +kernel
theorem dX10_flown_163 : decode cX10_flown 163 = .ok (.ireturn, 1) := by decide +kernel
set_option maxRecDepth 20000 in
theorem ggX10_plan_X10_isFlight : GoodIn wsX10_plan wsX10_isFlight := goodIn_r _ [6, 7, 8, 9, 5, 10, 62, 63, 64, 65, 66, 67, 68, 69, 70, 71, 72, 73, 74, 75, 76, 77, 78, 79, 80, 81, 82, 83, 84, 85, 86, 87, 88, 89, 90, 91, 92, 93, 94, 95, 96, 97, 98, 99, 100, 101, 102, 103, 104] (by decide +kernel) (by decide +kernel)
set_option maxRecDepth 20000 in
theorem gX10_plan_X10_isFlight : GoodIn wsX10_plan (wsV RX10 152 RX10 yX10_isFlight wsX10_isFlight) := goodIn_app (goodIn_of _ (by decide +kernel)) ggX10_plan_X10_isFlight
set_option maxRecDepth 20000 in
theorem ggX10_plan_X10_in : GoodIn wsX10_plan wsX10_in := goodIn_r _ [10] (by decide +kernel) (by decide +kernel)
set_option maxRecDepth 20000 in
theorem gX10_plan_X10_in : GoodIn wsX10_plan (va_wsS RX10 108 yX10_in wsX10_in) := goodIn_app (goodIn_of _ (by decide +kernel)) ggX10_plan_X10_in
set_option maxRecDepth 20000 in
theorem ggX10_plan_X10_isCell : GoodIn wsX10_plan wsX10_isCell := goodIn_r _ [14, 15, 16, 8, 9, 5, 10, 62, 63, 64, 65, 66, 67, 68, 69, 70, 71, 72, 73, 74, 75, 76, 77, 78, 79, 80, 81, 82, 83, 84, 85, 86, 87, 88, 89, 90, 91, 92, 93, 94, 95, 96, 97, 98, 99, 100, 101, 102, 103, 104] (by decide +kernel) (by decide +kernel)
set_option maxRecDepth 20000 in
theorem gX10_plan_X10_isCell : GoodIn wsX10_plan (wsV RX10 118 RX10 yX10_isCell wsX10_isCell) := goodIn_app (goodIn_of _ (by decide +kernel)) ggX10_plan_X10_isCell
set_option maxRecDepth 20000 in
theorem ggX10_plan_X10_planned : GoodIn wsX10_plan wsX10_planned := goodIn_r _ [20, 21, 22, 23, 24, 25, 5, 26, 27, 28, 29, 30, 31, 32, 33, 34, 35, 36, 37, 38, 39, 40, 41, 42, 43, 44, 45, 46, 47, 48, 49, 50, 51, 52, 53, 54, 55, 56, 57, 58, 59, 60, 61, 11, 12, 13, 14, 15, 16, 8, 9, 10, 62, 63, 64, 65, 66, 67, 68, 69, 70, 71, 72, 73, 74, 75, 76, 77, 78, 79, 80, 81, 82, 83, 84, 85, 86, 87, 88, 89, 90, 91, 92, 93, 94, 95, 96, 97, 98, 99, 100, 101, 102, 103, 104] (by decide +kernel) (by decide +kernel)
set_option maxRecDepth 20000 in
theorem gX10_plan_X10_planned : GoodIn wsX10_plan (wsV RX10 179 RX10 yX10_planned wsX10_planned) := goodIn_app (goodIn_of _ (by decide +kernel)) ggX10_plan_X10_planned
theorem dX10_plan_0 : decode cX10_plan 0 = .ok (.aload_n 0, 1) := by decide +kernel
theorem dX10_plan_1 : decode cX10_plan 1 = .ok (.iload_n 1, 1) := by decide +kernel
theorem dX10_plan_2 : decode cX10_plan 2 = .ok (.invokevirtual 152, 3) := by decide +kernel
theorem dX10_plan_5 : decode cX10_plan 5 = .ok (.ifCond .eq 34, 3) := by decide +kernel
theorem dX10_plan_8 : decode cX10_plan 8 = .ok (.iload_n 2, 1) := by decide +kernel
theorem dX10_plan_9 : decode cX10_plan 9 = .ok (.iconst 1, 1) := by decide +kernel
theorem dX10_plan_10 : decode cX10_plan 10 = .ok (.bipush 6, 2) := by decide +kernel
theorem dX10_plan_12 : decode cX10_plan 12 = .ok (.invokestatic 108, 3) := by decide +kernel
theorem dX10_plan_15 : decode cX10_plan 15 = .ok (.ifCond .eq 24, 3) := by decide +kernel
theorem dX10_plan_18 : decode cX10_plan 18 = .ok (.iload_n 3, 1) := by decide +kernel
theorem dX10_plan_19 : decode cX10_plan 19 = .ok (.iconst 1, 1) := by decide +kernel
theorem dX10_plan_20 : decode cX10_plan 20 = .ok (.bipush 50, 2) := by decide +kernel
theorem dX10_plan_22 : decode cX10_plan 22 = .ok (.invokestatic 108, 3) := by decide +kernel
theorem dX10_plan_25 : decode cX10_plan 25 = .ok (.ifCond .eq 14, 3) := by decide +kernel
theorem dX10_plan_28 : decode cX10_plan 28 = .ok (.aload_n 0, 1) := by decide +kernel
theorem dX10_plan_29 : decode cX10_plan 29 = .ok (.iload 4, 2) := by decide +kernel
theorem dX10_plan_31 : decode cX10_plan 31 = .ok (.iload 5, 2) := by decide +kernel
theorem dX10_plan_33 : decode cX10_plan 33 = .ok (.invokevirtual 118, 3) := by decide +kernel
theorem dX10_plan_36 : decode cX10_plan 36 = .ok (.ifCond .ne 6, 3) := by decide +kernel
theorem dX10_plan_39 : decode cX10_plan 39 = .ok (.bipush (-2), 2) := by decide +kernel
theorem dX10_plan_41 : decode cX10_plan 41 = .ok (.ireturn, 1) := by decide +kernel
theorem dX10_plan_42 : decode cX10_plan 42 = .ok (.aload_n 0, 1) := by decide +kernel
theorem dX10_plan_43 : decode cX10_plan 43 = .ok (.getfield 59, 3) := by decide +kernel
theorem dX10_plan_46 : decode cX10_plan 46 = .ok (.iload_n 1, 1) := by decide +kernel
theorem dX10_plan_47 : decode cX10_plan 47 = .ok (.baload, 1) := by decide +kernel
theorem dX10_plan_48 : decode cX10_plan 48 = .ok (.ifCond .eq 8, 3) := by decide +kernel
theorem dX10_plan_51 : decode cX10_plan 51 = .ok (.bipush (-3), 2) := by decide +kernel
theorem dX10_plan_53 : decode cX10_plan 53 = .ok (.goto 15, 3) := by decide +kernel
theorem dX10_plan_56 : decode cX10_plan 56 = .ok (.aload_n 0, 1) := by decide +kernel
theorem dX10_plan_57 : decode cX10_plan 57 = .ok (.iload_n 1, 1) := by decide +kernel
theorem dX10_plan_58 : decode cX10_plan 58 = .ok (.iload_n 2, 1) := by decide +kernel
theorem dX10_plan_59 : decode cX10_plan 59 = .ok (.iload_n 3, 1) := by decide +kernel
theorem dX10_plan_60 : decode cX10_plan 60 = .ok (.iload 4, 2) := by decide +kernel
theorem dX10_plan_62 : decode cX10_plan 62 = .ok (.iload 5, 2) := by decide +kernel
theorem dX10_plan_64 : decode cX10_plan 64 = .ok (.iconst 0, 1) := by decide +kernel
theorem dX10_plan_65 : decode cX10_plan 65 = .ok (.invokevirtual 179, 3) := by decide +kernel
theorem dX10_plan_68 : decode cX10_plan 68 = .ok (.ireturn, 1) := by decide +kernel
set_option maxRecDepth 20000 in
theorem ggX10_away_X10_isFlight : GoodIn wsX10_away wsX10_isFlight := goodIn_r _ [7, 8, 9, 10, 6, 11, 63, 64, 65, 66, 67, 68, 69, 70, 71, 72, 73, 74, 75, 76, 77, 78, 79, 80, 81, 82, 83, 84, 85, 86, 87, 88, 89, 90, 91, 92, 93, 94, 95, 96, 97, 98, 99, 100, 101, 102, 103, 104, 105] (by decide +kernel) (by decide +kernel)
set_option maxRecDepth 20000 in
theorem gX10_away_X10_isFlight : GoodIn wsX10_away (wsV RX10 152 RX10 yX10_isFlight wsX10_isFlight) := goodIn_app (goodIn_of _ (by decide +kernel)) ggX10_away_X10_isFlight
set_option maxRecDepth 20000 in
theorem ggX10_away_X10_in : GoodIn wsX10_away wsX10_in := goodIn_r _ [11] (by decide +kernel) (by decide +kernel)
set_option maxRecDepth 20000 in
theorem gX10_away_X10_in : GoodIn wsX10_away (va_wsS RX10 108 yX10_in wsX10_in) := goodIn_app (goodIn_of _ (by decide +kernel)) ggX10_away_X10_in
set_option maxRecDepth 20000 in
theorem ggX10_away_X10_planned : GoodIn wsX10_away wsX10_planned := goodIn_r _ [15, 16, 17, 18, 19, 20, 6, 21, 22, 23, 24, 25, 26, 27, 28, 29, 30, 31, 32, 33, 34, 35, 36, 37, 38, 39, 40, 41, 42, 43, 44, 45, 46, 47, 48, 49, 50, 51, 52, 53, 54, 55, 56, 57, 58, 59, 60, 61, 62, 9, 10, 11, 63, 64, 65, 66, 67, 68, 69, 70, 71, 72, 73, 74, 75, 76, 77, 78, 79, 80, 81, 82, 83, 84, 85, 86, 87, 88, 89, 90, 91, 92, 93, 94, 95, 96, 97, 98, 99, 100, 101, 102, 103, 104, 105] (by decide +kernel) (by decide +kernel)
set_option maxRecDepth 20000 in
theorem gX10_away_X10_planned : GoodIn wsX10_away (wsV RX10 179 RX10 yX10_planned wsX10_planned) := goodIn_app (goodIn_of _ (by decide +kernel)) ggX10_away_X10_planned
theorem dX10_away_0 : decode cX10_away 0 = .ok (.aload_n 0, 1) := by decide +kernel
theorem dX10_away_1 : decode cX10_away 1 = .ok (.iload_n 1, 1) := by decide +kernel
theorem dX10_away_2 : decode cX10_away 2 = .ok (.invokevirtual 152, 3) := by decide +kernel
theorem dX10_away_5 : decode cX10_away 5 = .ok (.ifCond .eq 23, 3) := by decide +kernel
theorem dX10_away_8 : decode cX10_away 8 = .ok (.iload_n 2, 1) := by decide +kernel
theorem dX10_away_9 : decode cX10_away 9 = .ok (.iconst 1, 1) := by decide +kernel
theorem dX10_away_10 : decode cX10_away 10 = .ok (.bipush 6, 2) := by decide +kernel
theorem dX10_away_12 : decode cX10_away 12 = .ok (.invokestatic 108, 3) := by decide +kernel
theorem dX10_away_15 : decode cX10_away 15 = .ok (.ifCond .eq 13, 3) := by decide +kernel
theorem dX10_away_18 : decode cX10_away 18 = .ok (.iload_n 3, 1) := by decide +kernel
theorem dX10_away_19 : decode cX10_away 19 = .ok (.iconst 1, 1) := by decide +kernel
theorem dX10_away_20 : decode cX10_away 20 = .ok (.bipush 50, 2) := by decide +kernel
theorem dX10_away_22 : decode cX10_away 22 = .ok (.invokestatic 108, 3) := by decide +kernel
theorem dX10_away_25 : decode cX10_away 25 = .ok (.ifCond .ne 6, 3) := by decide +kernel
theorem dX10_away_28 : decode cX10_away 28 = .ok (.bipush (-2), 2) := by decide +kernel
theorem dX10_away_30 : decode cX10_away 30 = .ok (.ireturn, 1) := by decide +kernel
theorem dX10_away_31 : decode cX10_away 31 = .ok (.aload_n 0, 1) := by decide +kernel
theorem dX10_away_32 : decode cX10_away 32 = .ok (.getfield 59, 3) := by decide +kernel
theorem dX10_away_35 : decode cX10_away 35 = .ok (.iload_n 1, 1) := by decide +kernel
theorem dX10_away_36 : decode cX10_away 36 = .ok (.baload, 1) := by decide +kernel
theorem dX10_away_37 : decode cX10_away 37 = .ok (.ifCond .eq 8, 3) := by decide +kernel
theorem dX10_away_40 : decode cX10_away 40 = .ok (.bipush (-3), 2) := by decide +kernel
theorem dX10_away_42 : decode cX10_away 42 = .ok (.goto 35, 3) := by decide +kernel
theorem dX10_away_45 : decode cX10_away 45 = .ok (.aload_n 0, 1) := by decide +kernel
theorem dX10_away_46 : decode cX10_away 46 = .ok (.iload_n 1, 1) := by decide +kernel
theorem dX10_away_47 : decode cX10_away 47 = .ok (.iload_n 2, 1) := by decide +kernel
theorem dX10_away_48 : decode cX10_away 48 = .ok (.iload_n 3, 1) := by decide +kernel
theorem dX10_away_49 : decode cX10_away 49 = .ok (.aload_n 0, 1) := by decide +kernel
theorem dX10_away_50 : decode cX10_away 50 = .ok (.getfield 69, 3) := by decide +kernel
theorem dX10_away_53 : decode cX10_away 53 = .ok (.bipush 61, 2) := by decide +kernel
theorem dX10_away_55 : decode cX10_away 55 = .ok (.iload_n 1, 1) := by decide +kernel
theorem dX10_away_56 : decode cX10_away 56 = .ok (.imul, 1) := by decide +kernel
theorem dX10_away_57 : decode cX10_away 57 = .ok (.iaload, 1) := by decide +kernel
theorem dX10_away_58 : decode cX10_away 58 = .ok (.bipush 24, 2) := by decide +kernel
theorem dX10_away_60 : decode cX10_away 60 = .ok (.irem, 1) := by decide +kernel
theorem dX10_away_61 : decode cX10_away 61 = .ok (.aload_n 0, 1) := by decide +kernel
theorem dX10_away_62 : decode cX10_away 62 = .ok (.getfield 69, 3) := by decide +kernel
theorem dX10_away_65 : decode cX10_away 65 = .ok (.bipush 61, 2) := by decide +kernel
theorem dX10_away_67 : decode cX10_away 67 = .ok (.iload_n 1, 1) := by decide +kernel
theorem dX10_away_68 : decode cX10_away 68 = .ok (.imul, 1) := by decide +kernel
theorem dX10_away_69 : decode cX10_away 69 = .ok (.iaload, 1) := by decide +kernel
theorem dX10_away_70 : decode cX10_away 70 = .ok (.bipush 24, 2) := by decide +kernel
theorem dX10_away_72 : decode cX10_away 72 = .ok (.idiv, 1) := by decide +kernel
theorem dX10_away_73 : decode cX10_away 73 = .ok (.iconst 1, 1) := by decide +kernel
theorem dX10_away_74 : decode cX10_away 74 = .ok (.invokevirtual 179, 3) := by decide +kernel
theorem dX10_away_77 : decode cX10_away 77 = .ok (.ireturn, 1) := by decide +kernel
set_option maxRecDepth 20000 in
theorem ggX10_order_X10_in : GoodIn wsX10_order wsX10_in := goodIn_r _ [6] (by decide +kernel) (by decide +kernel)
set_option maxRecDepth 20000 in
theorem gX10_order_X10_in : GoodIn wsX10_order (va_wsS RX10 108 yX10_in wsX10_in) := goodIn_app (goodIn_of _ (by decide +kernel)) ggX10_order_X10_in
theorem dX10_order_0 : decode cX10_order 0 = .ok (.iload_n 1, 1) := by decide +kernel
theorem dX10_order_1 : decode cX10_order 1 = .ok (.iconst 0, 1) := by decide +kernel
theorem dX10_order_2 : decode cX10_order 2 = .ok (.aload_n 0, 1) := by decide +kernel
theorem dX10_order_3 : decode cX10_order 3 = .ok (.getfield 176, 3) := by decide +kernel
theorem dX10_order_6 : decode cX10_order 6 = .ok (.iconst 1, 1) := by decide +kernel
theorem dX10_order_7 : decode cX10_order 7 = .ok (.isub, 1) := by decide +kernel
theorem dX10_order_8 : decode cX10_order 8 = .ok (.invokestatic 108, 3) := by decide +kernel
theorem dX10_order_11 : decode cX10_order 11 = .ok (.ifCond .eq 12, 3) := by decide +kernel
theorem dX10_order_14 : decode cX10_order 14 = .ok (.aload_n 0, 1) := by decide +kernel
theorem dX10_order_15 : decode cX10_order 15 = .ok (.getfield 87, 3) := by decide +kernel
theorem dX10_order_18 : decode cX10_order 18 = .ok (.iload_n 1, 1) := by decide +kernel
theorem dX10_order_19 : decode cX10_order 19 = .ok (.iaload, 1) := by decide +kernel
theorem dX10_order_20 : decode cX10_order 20 = .ok (.goto 4, 3) := by decide +kernel
theorem dX10_order_23 : decode cX10_order 23 = .ok (.iconst (-1), 1) := by decide +kernel
theorem dX10_order_24 : decode cX10_order 24 = .ok (.ireturn, 1) := by decide +kernel
set_option maxRecDepth 20000 in
theorem ggX10_entry_X10_isFlight : GoodIn wsX10_entry wsX10_isFlight := goodIn_r _ [9, 10, 11, 12, 8, 13, 14, 15, 16, 17, 18, 19, 20, 21, 22, 23, 24, 25, 26, 27, 28, 29, 30, 31, 32, 33, 34, 35, 36, 37, 38, 39, 40, 41, 42, 43, 44, 45, 46, 47, 48, 49, 50, 51, 52, 53, 54, 55, 56] (by decide +kernel) (by decide +kernel)
set_option maxRecDepth 20000 in
theorem gX10_entry_X10_isFlight : GoodIn wsX10_entry (wsV RX10 152 RX10 yX10_isFlight wsX10_isFlight) := goodIn_app (goodIn_of _ (by decide +kernel)) ggX10_entry_X10_isFlight
set_option maxRecDepth 20000 in
theorem ggX10_entry_X10_in : GoodIn wsX10_entry wsX10_in := goodIn_r _ [13] (by decide +kernel) (by decide +kernel)
set_option maxRecDepth 20000 in
theorem gX10_entry_X10_in : GoodIn wsX10_entry (va_wsS RX10 108 yX10_in wsX10_in) := goodIn_app (goodIn_of _ (by decide +kernel)) ggX10_entry_X10_in
theorem dX10_entry_0 : decode cX10_entry 0 = .ok (.aload_n 0, 1) := by decide +kernel
theorem dX10_entry_1 : decode cX10_entry 1 = .ok (.iload_n 1, 1) := by decide +kernel
theorem dX10_entry_2 : decode cX10_entry 2 = .ok (.invokevirtual 152, 3) := by decide +kernel
theorem dX10_entry_5 : decode cX10_entry 5 = .ok (.ifCond .eq 12, 3) := by decide +kernel
theorem dX10_entry_8 : decode cX10_entry 8 = .ok (.iload_n 3, 1) := by decide +kernel
theorem dX10_entry_9 : decode cX10_entry 9 = .ok (.iconst 0, 1) := by decide +kernel
theorem dX10_entry_10 : decode cX10_entry 10 = .ok (.iconst 2, 1) := by decide +kernel
theorem dX10_entry_11 : decode cX10_entry 11 = .ok (.invokestatic 108, 3) := by decide +kernel
theorem dX10_entry_14 : decode cX10_entry 14 = .ok (.ifCond .ne 6, 3) := by decide +kernel
theorem dX10_entry_17 : decode cX10_entry 17 = .ok (.bipush (-2), 2) := by decide +kernel
theorem dX10_entry_19 : decode cX10_entry 19 = .ok (.ireturn, 1) := by decide +kernel
theorem dX10_entry_20 : decode cX10_entry 20 = .ok (.iload_n 2, 1) := by decide +kernel
theorem dX10_entry_21 : decode cX10_entry 21 = .ok (.iconst 0, 1) := by decide +kernel
theorem dX10_entry_22 : decode cX10_entry 22 = .ok (.aload_n 0, 1) := by decide +kernel
theorem dX10_entry_23 : decode cX10_entry 23 = .ok (.getfield 66, 3) := by decide +kernel
theorem dX10_entry_26 : decode cX10_entry 26 = .ok (.iload_n 1, 1) := by decide +kernel
theorem dX10_entry_27 : decode cX10_entry 27 = .ok (.iaload, 1) := by decide +kernel
theorem dX10_entry_28 : decode cX10_entry 28 = .ok (.iconst 1, 1) := by decide +kernel
theorem dX10_entry_29 : decode cX10_entry 29 = .ok (.isub, 1) := by decide +kernel
theorem dX10_entry_30 : decode cX10_entry 30 = .ok (.invokestatic 108, 3) := by decide +kernel
theorem dX10_entry_33 : decode cX10_entry 33 = .ok (.ifCond .eq 17, 3) := by decide +kernel
theorem dX10_entry_36 : decode cX10_entry 36 = .ok (.aload_n 0, 1) := by decide +kernel
theorem dX10_entry_37 : decode cX10_entry 37 = .ok (.getfield 75, 3) := by decide +kernel
theorem dX10_entry_40 : decode cX10_entry 40 = .ok (.bipush 61, 2) := by decide +kernel
theorem dX10_entry_42 : decode cX10_entry 42 = .ok (.iload_n 1, 1) := by decide +kernel
theorem dX10_entry_43 : decode cX10_entry 43 = .ok (.imul, 1) := by decide +kernel
theorem dX10_entry_44 : decode cX10_entry 44 = .ok (.iload_n 2, 1) := by decide +kernel
theorem dX10_entry_45 : decode cX10_entry 45 = .ok (.iadd, 1) := by decide +kernel
theorem dX10_entry_46 : decode cX10_entry 46 = .ok (.baload, 1) := by decide +kernel
theorem dX10_entry_47 : decode cX10_entry 47 = .ok (.ifCond .eq 5, 3) := by decide +kernel
theorem dX10_entry_50 : decode cX10_entry 50 = .ok (.iconst (-1), 1) := by decide +kernel
theorem dX10_entry_51 : decode cX10_entry 51 = .ok (.ireturn, 1) := by decide +kernel
theorem dX10_entry_52 : decode cX10_entry 52 = .ok (.iload_n 3, 1) := by decide +kernel
theorem dX10_entry_53 : decode cX10_entry 53 = .ok (.ifCond .ne 20, 3) := by decide +kernel
theorem dX10_entry_56 : decode cX10_entry 56 = .ok (.aload_n 0, 1) := by decide +kernel
theorem dX10_entry_57 : decode cX10_entry 57 = .ok (.getfield 69, 3) := by decide +kernel
theorem dX10_entry_60 : decode cX10_entry 60 = .ok (.bipush 61, 2) := by decide +kernel
theorem dX10_entry_62 : decode cX10_entry 62 = .ok (.iload_n 1, 1) := by decide +kernel
theorem dX10_entry_63 : decode cX10_entry 63 = .ok (.imul, 1) := by decide +kernel
theorem dX10_entry_64 : decode cX10_entry 64 = .ok (.iload_n 2, 1) := by decide +kernel
theorem dX10_entry_65 : decode cX10_entry 65 = .ok (.iadd, 1) := by decide +kernel
theorem dX10_entry_66 : decode cX10_entry 66 = .ok (.iaload, 1) := by decide +kernel
theorem dX10_entry_67 : decode cX10_entry 67 = .ok (.bipush 24, 2) := by decide +kernel
theorem dX10_entry_69 : decode cX10_entry 69 = .ok (.irem, 1) := by decide +kernel
theorem dX10_entry_70 : decode cX10_entry 70 = .ok (.goto 36, 3) := by decide +kernel
theorem dX10_entry_73 : decode cX10_entry 73 = .ok (.iload_n 3, 1) := by decide +kernel
theorem dX10_entry_74 : decode cX10_entry 74 = .ok (.iconst 1, 1) := by decide +kernel
theorem dX10_entry_75 : decode cX10_entry 75 = .ok (.if_icmp .ne 20, 3) := by decide +kernel
theorem dX10_entry_78 : decode cX10_entry 78 = .ok (.aload_n 0, 1) := by decide +kernel
theorem dX10_entry_79 : decode cX10_entry 79 = .ok (.getfield 69, 3) := by decide +kernel
theorem dX10_entry_82 : decode cX10_entry 82 = .ok (.bipush 61, 2) := by decide +kernel
theorem dX10_entry_84 : decode cX10_entry 84 = .ok (.iload_n 1, 1) := by decide +kernel
theorem dX10_entry_85 : decode cX10_entry 85 = .ok (.imul, 1) := by decide +kernel
theorem dX10_entry_86 : decode cX10_entry 86 = .ok (.iload_n 2, 1) := by decide +kernel
theorem dX10_entry_87 : decode cX10_entry 87 = .ok (.iadd, 1) := by decide +kernel
theorem dX10_entry_88 : decode cX10_entry 88 = .ok (.iaload, 1) := by decide +kernel
theorem dX10_entry_89 : decode cX10_entry 89 = .ok (.bipush 24, 2) := by decide +kernel
theorem dX10_entry_91 : decode cX10_entry 91 = .ok (.idiv, 1) := by decide +kernel
theorem dX10_entry_92 : decode cX10_entry 92 = .ok (.goto 14, 3) := by decide +kernel
theorem dX10_entry_95 : decode cX10_entry 95 = .ok (.aload_n 0, 1) := by decide +kernel
theorem dX10_entry_96 : decode cX10_entry 96 = .ok (.getfield 72, 3) := by decide +kernel
theorem dX10_entry_99 : decode cX10_entry 99 = .ok (.bipush 61, 2) := by decide +kernel
theorem dX10_entry_101 : decode cX10_entry 101 = .ok (.iload_n 1, 1) := by decide +kernel
theorem dX10_entry_102 : decode cX10_entry 102 = .ok (.imul, 1) := by decide +kernel
theorem dX10_entry_103 : decode cX10_entry 103 = .ok (.iload_n 2, 1) := by decide +kernel
theorem dX10_entry_104 : decode cX10_entry 104 = .ok (.iadd, 1) := by decide +kernel
theorem dX10_entry_105 : decode cX10_entry 105 = .ok (.iaload, 1) := by decide +kernel
theorem dX10_entry_106 : decode cX10_entry 106 = .ok (.ireturn, 1) := by decide +kernel
set_option maxRecDepth 20000 in
theorem ggX10_lose_X10_isFlight : GoodIn wsX10_lose wsX10_isFlight := goodIn_r _ [7, 8, 9, 10, 6, 11, 12, 13, 14, 15, 16, 17, 18, 19, 20, 21, 22, 23, 24, 25, 26, 27, 28, 29, 30, 31, 32, 33, 34, 35, 36, 37, 38, 39, 40, 41, 42, 43, 44, 45, 46, 47, 48, 49, 50, 51, 52, 53, 54] (by decide +kernel) (by decide +kernel)
set_option maxRecDepth 20000 in
theorem gX10_lose_X10_isFlight : GoodIn wsX10_lose (wsV RX10 152 RX10 yX10_isFlight wsX10_isFlight) := goodIn_app (goodIn_of _ (by decide +kernel)) ggX10_lose_X10_isFlight
theorem dX10_lose_0 : decode cX10_lose 0 = .ok (.aload_n 0, 1) := by decide +kernel
theorem dX10_lose_1 : decode cX10_lose 1 = .ok (.iload_n 1, 1) := by decide +kernel
theorem dX10_lose_2 : decode cX10_lose 2 = .ok (.invokevirtual 152, 3) := by decide +kernel
theorem dX10_lose_5 : decode cX10_lose 5 = .ok (.ifCond .eq 13, 3) := by decide +kernel
theorem dX10_lose_8 : decode cX10_lose 8 = .ok (.iload_n 2, 1) := by decide +kernel
theorem dX10_lose_9 : decode cX10_lose 9 = .ok (.iconst 1, 1) := by decide +kernel
theorem dX10_lose_10 : decode cX10_lose 10 = .ok (.if_icmp .lt 8, 3) := by decide +kernel
theorem dX10_lose_13 : decode cX10_lose 13 = .ok (.iload_n 3, 1) := by decide +kernel
theorem dX10_lose_14 : decode cX10_lose 14 = .ok (.iload_n 2, 1) := by decide +kernel
theorem dX10_lose_15 : decode cX10_lose 15 = .ok (.if_icmp .ge 6, 3) := by decide +kernel
theorem dX10_lose_18 : decode cX10_lose 18 = .ok (.bipush (-2), 2) := by decide +kernel
theorem dX10_lose_20 : decode cX10_lose 20 = .ok (.ireturn, 1) := by decide +kernel
theorem dX10_lose_21 : decode cX10_lose 21 = .ok (.iconst 0, 1) := by decide +kernel
theorem dX10_lose_22 : decode cX10_lose 22 = .ok (.istore 4, 2) := by decide +kernel
theorem dX10_lose_24 : decode cX10_lose 24 = .ok (.iload_n 2, 1) := by decide +kernel
theorem dX10_lose_25 : decode cX10_lose 25 = .ok (.istore 5, 2) := by decide +kernel
theorem dX10_lose_27 : decode cX10_lose 27 = .ok (.iload 5, 2) := by decide +kernel
theorem dX10_lose_29 : decode cX10_lose 29 = .ok (.iload_n 3, 1) := by decide +kernel
theorem dX10_lose_30 : decode cX10_lose 30 = .ok (.if_icmp .gt 58, 3) := by decide +kernel
theorem dX10_lose_33 : decode cX10_lose 33 = .ok (.iload 5, 2) := by decide +kernel
theorem dX10_lose_35 : decode cX10_lose 35 = .ok (.aload_n 0, 1) := by decide +kernel
theorem dX10_lose_36 : decode cX10_lose 36 = .ok (.getfield 66, 3) := by decide +kernel
theorem dX10_lose_39 : decode cX10_lose 39 = .ok (.iload_n 1, 1) := by decide +kernel
theorem dX10_lose_40 : decode cX10_lose 40 = .ok (.iaload, 1) := by decide +kernel
theorem dX10_lose_41 : decode cX10_lose 41 = .ok (.if_icmp .ge 47, 3) := by decide +kernel
theorem dX10_lose_44 : decode cX10_lose 44 = .ok (.iload 4, 2) := by decide +kernel
theorem dX10_lose_46 : decode cX10_lose 46 = .ok (.aload_n 0, 1) := by decide +kernel
theorem dX10_lose_47 : decode cX10_lose 47 = .ok (.getfield 75, 3) := by decide +kernel
theorem dX10_lose_50 : decode cX10_lose 50 = .ok (.bipush 61, 2) := by decide +kernel
theorem dX10_lose_52 : decode cX10_lose 52 = .ok (.iload_n 1, 1) := by decide +kernel
theorem dX10_lose_53 : decode cX10_lose 53 = .ok (.imul, 1) := by decide +kernel
theorem dX10_lose_54 : decode cX10_lose 54 = .ok (.iload 5, 2) := by decide +kernel
theorem dX10_lose_56 : decode cX10_lose 56 = .ok (.iadd, 1) := by decide +kernel
theorem dX10_lose_57 : decode cX10_lose 57 = .ok (.baload, 1) := by decide +kernel
theorem dX10_lose_58 : decode cX10_lose 58 = .ok (.ifCond .eq 7, 3) := by decide +kernel
theorem dX10_lose_61 : decode cX10_lose 61 = .ok (.iconst 0, 1) := by decide +kernel
theorem dX10_lose_62 : decode cX10_lose 62 = .ok (.goto 4, 3) := by decide +kernel
theorem dX10_lose_65 : decode cX10_lose 65 = .ok (.iconst 1, 1) := by decide +kernel
theorem dX10_lose_66 : decode cX10_lose 66 = .ok (.iadd, 1) := by decide +kernel
theorem dX10_lose_67 : decode cX10_lose 67 = .ok (.istore 4, 2) := by decide +kernel
theorem dX10_lose_69 : decode cX10_lose 69 = .ok (.aload_n 0, 1) := by decide +kernel
theorem dX10_lose_70 : decode cX10_lose 70 = .ok (.getfield 75, 3) := by decide +kernel
theorem dX10_lose_73 : decode cX10_lose 73 = .ok (.bipush 61, 2) := by decide +kernel
theorem dX10_lose_75 : decode cX10_lose 75 = .ok (.iload_n 1, 1) := by decide +kernel
theorem dX10_lose_76 : decode cX10_lose 76 = .ok (.imul, 1) := by decide +kernel
theorem dX10_lose_77 : decode cX10_lose 77 = .ok (.iload 5, 2) := by decide +kernel
theorem dX10_lose_79 : decode cX10_lose 79 = .ok (.iadd, 1) := by decide +kernel
theorem dX10_lose_80 : decode cX10_lose 80 = .ok (.iconst 1, 1) := by decide +kernel
theorem dX10_lose_81 : decode cX10_lose 81 = .ok (.bastore, 1) := by decide +kernel
theorem dX10_lose_82 : decode cX10_lose 82 = .ok (.iinc 5 1, 3) := by decide +kernel
theorem dX10_lose_85 : decode cX10_lose 85 = .ok (.goto (-58), 3) := by decide +kernel
theorem dX10_lose_88 : decode cX10_lose 88 = .ok (.iload 4, 2) := by decide +kernel
theorem dX10_lose_90 : decode cX10_lose 90 = .ok (.ireturn, 1) := by decide +kernel
theorem dX10_sum_0 : decode cX10_sum 0 = .ok (.iload_n 0, 1) := by decide +kernel
theorem dX10_sum_1 : decode cX10_sum 1 = .ok (.iload_n 1, 1) := by decide +kernel
theorem dX10_sum_2 : decode cX10_sum 2 = .ok (.iadd, 1) := by decide +kernel
theorem dX10_sum_3 : decode cX10_sum 3 = .ok (.ldc 183, 2) := by decide +kernel
theorem dX10_sum_5 : decode cX10_sum 5 = .ok (.if_icmp .le 8, 3) := by decide +kernel
theorem dX10_sum_8 : decode cX10_sum 8 = .ok (.ldc 183, 2) := by decide +kernel
theorem dX10_sum_10 : decode cX10_sum 10 = .ok (.goto 6, 3) := by decide +kernel
theorem dX10_sum_13 : decode cX10_sum 13 = .ok (.iload_n 0, 1) := by decide +kernel
theorem dX10_sum_14 : decode cX10_sum 14 = .ok (.iload_n 1, 1) := by decide +kernel
theorem dX10_sum_15 : decode cX10_sum 15 = .ok (.iadd, 1) := by decide +kernel
theorem dX10_sum_16 : decode cX10_sum 16 = .ok (.ireturn, 1) := by decide +kernel
set_option maxRecDepth 20000 in
theorem ggX10_findWays_X10_goOn : GoodIn wsX10_findWays wsX10_goOn := goodIn_r _ [14, 15, 16, 1, 2, 17, 3, 4, 5, 18, 19, 20, 13, 21, 22, 23, 24, 25, 26, 27, 28, 29, 30, 31, 32, 33, 34, 35, 36, 37, 38, 39, 40, 41, 42, 43, 44, 45, 46, 47, 48, 49, 50, 51, 52, 53, 54, 55, 56, 57, 58, 59, 60, 61, 62, 63, 64, 65, 66, 67, 68, 69, 70, 71, 72, 73, 74, 75, 76, 77, 78, 79, 80, 81, 82] (by decide +kernel) (by decide +kernel)
set_option maxRecDepth 20000 in
theorem gX10_findWays_X10_goOn : GoodIn wsX10_findWays (wsV RX10 184 RX10 yX10_goOn wsX10_goOn) := goodIn_app (goodIn_of _ (by decide +kernel)) ggX10_findWays_X10_goOn
set_option maxRecDepth 20000 in
theorem ggX10_findWays_X10_sum : GoodIn wsX10_findWays wsX10_sum := goodIn_r _ [38, 39] (by decide +kernel) (by decide +kernel)
set_option maxRecDepth 20000 in
theorem gX10_findWays_X10_sum : GoodIn wsX10_findWays (va_wsS RX10 194 yX10_sum wsX10_sum) := goodIn_app (goodIn_of _ (by decide +kernel)) ggX10_findWays_X10_sum
theorem dX10_findWays_0 : decode cX10_findWays 0 = .ok (.iconst 0, 1) := by decide +kernel
theorem dX10_findWays_1 : decode cX10_findWays 1 = .ok (.istore_n 2, 1) := by decide +kernel
theorem dX10_findWays_2 : decode cX10_findWays 2 = .ok (.iload_n 2, 1) := by decide +kernel
theorem dX10_findWays_3 : decode cX10_findWays 3 = .ok (.sipush 4608, 3) := by decide +kernel
theorem dX10_findWays_6 : decode cX10_findWays 6 = .ok (.if_icmp .ge 23, 3) := by decide +kernel
theorem dX10_findWays_9 : decode cX10_findWays 9 = .ok (.aload_n 0, 1) := by decide +kernel
theorem dX10_findWays_10 : decode cX10_findWays 10 = .ok (.getfield 90, 3) := by decide +kernel
theorem dX10_findWays_13 : decode cX10_findWays 13 = .ok (.iload_n 2, 1) := by decide +kernel
theorem dX10_findWays_14 : decode cX10_findWays 14 = .ok (.iconst 0, 1) := by decide +kernel
theorem dX10_findWays_15 : decode cX10_findWays 15 = .ok (.iastore, 1) := by decide +kernel
theorem dX10_findWays_16 : decode cX10_findWays 16 = .ok (.aload_n 0, 1) := by decide +kernel
theorem dX10_findWays_17 : decode cX10_findWays 17 = .ok (.getfield 93, 3) := by decide +kernel
theorem dX10_findWays_20 : decode cX10_findWays 20 = .ok (.iload_n 2, 1) := by decide +kernel
theorem dX10_findWays_21 : decode cX10_findWays 21 = .ok (.iconst 0, 1) := by decide +kernel
theorem dX10_findWays_22 : decode cX10_findWays 22 = .ok (.iastore, 1) := by decide +kernel
theorem dX10_findWays_23 : decode cX10_findWays 23 = .ok (.iinc 2 1, 3) := by decide +kernel
theorem dX10_findWays_26 : decode cX10_findWays 26 = .ok (.goto (-24), 3) := by decide +kernel
theorem dX10_findWays_29 : decode cX10_findWays 29 = .ok (.bipush 8, 2) := by decide +kernel
theorem dX10_findWays_31 : decode cX10_findWays 31 = .ok (.aload_n 0, 1) := by decide +kernel
theorem dX10_findWays_32 : decode cX10_findWays 32 = .ok (.getfield 69, 3) := by decide +kernel
theorem dX10_findWays_35 : decode cX10_findWays 35 = .ok (.bipush 61, 2) := by decide +kernel
theorem dX10_findWays_37 : decode cX10_findWays 37 = .ok (.iload_n 1, 1) := by decide +kernel
theorem dX10_findWays_38 : decode cX10_findWays 38 = .ok (.imul, 1) := by decide +kernel
theorem dX10_findWays_39 : decode cX10_findWays 39 = .ok (.iaload, 1) := by decide +kernel
theorem dX10_findWays_40 : decode cX10_findWays 40 = .ok (.imul, 1) := by decide +kernel
theorem dX10_findWays_41 : decode cX10_findWays 41 = .ok (.aload_n 0, 1) := by decide +kernel
theorem dX10_findWays_42 : decode cX10_findWays 42 = .ok (.getfield 72, 3) := by decide +kernel
theorem dX10_findWays_45 : decode cX10_findWays 45 = .ok (.bipush 61, 2) := by decide +kernel
theorem dX10_findWays_47 : decode cX10_findWays 47 = .ok (.iload_n 1, 1) := by decide +kernel
theorem dX10_findWays_48 : decode cX10_findWays 48 = .ok (.imul, 1) := by decide +kernel
theorem dX10_findWays_49 : decode cX10_findWays 49 = .ok (.iaload, 1) := by decide +kernel
theorem dX10_findWays_50 : decode cX10_findWays 50 = .ok (.iadd, 1) := by decide +kernel
theorem dX10_findWays_51 : decode cX10_findWays 51 = .ok (.istore_n 2, 1) := by decide +kernel
theorem dX10_findWays_52 : decode cX10_findWays 52 = .ok (.aload_n 0, 1) := by decide +kernel
theorem dX10_findWays_53 : decode cX10_findWays 53 = .ok (.getfield 16, 3) := by decide +kernel
theorem dX10_findWays_56 : decode cX10_findWays 56 = .ok (.aload_n 0, 1) := by decide +kernel
theorem dX10_findWays_57 : decode cX10_findWays 57 = .ok (.getfield 69, 3) := by decide +kernel
theorem dX10_findWays_60 : decode cX10_findWays 60 = .ok (.bipush 61, 2) := by decide +kernel
theorem dX10_findWays_62 : decode cX10_findWays 62 = .ok (.iload_n 1, 1) := by decide +kernel
theorem dX10_findWays_63 : decode cX10_findWays 63 = .ok (.imul, 1) := by decide +kernel
theorem dX10_findWays_64 : decode cX10_findWays 64 = .ok (.iaload, 1) := by decide +kernel
theorem dX10_findWays_65 : decode cX10_findWays 65 = .ok (.iaload, 1) := by decide +kernel
theorem dX10_findWays_66 : decode cX10_findWays 66 = .ok (.iconst 2, 1) := by decide +kernel
theorem dX10_findWays_67 : decode cX10_findWays 67 = .ok (.if_icmp .ne 13, 3) := by decide +kernel
theorem dX10_findWays_70 : decode cX10_findWays 70 = .ok (.aload_n 0, 1) := by decide +kernel
theorem dX10_findWays_71 : decode cX10_findWays 71 = .ok (.getfield 93, 3) := by decide +kernel
theorem dX10_findWays_74 : decode cX10_findWays 74 = .ok (.iload_n 2, 1) := by decide +kernel
theorem dX10_findWays_75 : decode cX10_findWays 75 = .ok (.iconst 1, 1) := by decide +kernel
theorem dX10_findWays_76 : decode cX10_findWays 76 = .ok (.iastore, 1) := by decide +kernel
theorem dX10_findWays_77 : decode cX10_findWays 77 = .ok (.goto 10, 3) := by decide +kernel
theorem dX10_findWays_80 : decode cX10_findWays 80 = .ok (.aload_n 0, 1) := by decide +kernel
theorem dX10_findWays_81 : decode cX10_findWays 81 = .ok (.getfield 90, 3) := by decide +kernel
theorem dX10_findWays_84 : decode cX10_findWays 84 = .ok (.iload_n 2, 1) := by decide +kernel
theorem dX10_findWays_85 : decode cX10_findWays 85 = .ok (.iconst 1, 1) := by decide +kernel
theorem dX10_findWays_86 : decode cX10_findWays 86 = .ok (.iastore, 1) := by decide +kernel
theorem dX10_findWays_87 : decode cX10_findWays 87 = .ok (.iconst 1, 1) := by decide +kernel
theorem dX10_findWays_88 : decode cX10_findWays 88 = .ok (.istore_n 3, 1) := by decide +kernel
theorem dX10_findWays_89 : decode cX10_findWays 89 = .ok (.iload_n 3, 1) := by decide +kernel
theorem dX10_findWays_90 : decode cX10_findWays 90 = .ok (.aload_n 0, 1) := by decide +kernel
theorem dX10_findWays_91 : decode cX10_findWays 91 = .ok (.getfield 66, 3) := by decide +kernel
theorem dX10_findWays_94 : decode cX10_findWays 94 = .ok (.iload_n 1, 1) := by decide +kernel
theorem dX10_findWays_95 : decode cX10_findWays 95 = .ok (.iaload, 1) := by decide +kernel
theorem dX10_findWays_96 : decode cX10_findWays 96 = .ok (.if_icmp .ge 28, 3) := by decide +kernel
theorem dX10_findWays_99 : decode cX10_findWays 99 = .ok (.aload_n 0, 1) := by decide +kernel
theorem dX10_findWays_100 : decode cX10_findWays 100 = .ok (.iload_n 1, 1) := by decide +kernel
theorem dX10_findWays_101 : decode cX10_findWays 101 = .ok (.iload_n 3, 1) := by decide +kernel
theorem dX10_findWays_102 : decode cX10_findWays 102 = .ok (.aload_n 0, 1) := by decide +kernel
theorem dX10_findWays_103 : decode cX10_findWays 103 = .ok (.getfield 63, 3) := by decide +kernel
theorem dX10_findWays_106 : decode cX10_findWays 106 = .ok (.iload_n 1, 1) := by decide +kernel
theorem dX10_findWays_107 : decode cX10_findWays 107 = .ok (.iaload, 1) := by decide +kernel
theorem dX10_findWays_108 : decode cX10_findWays 108 = .ok (.iload_n 3, 1) := by decide +kernel
theorem dX10_findWays_109 : decode cX10_findWays 109 = .ok (.iadd, 1) := by decide +kernel
theorem dX10_findWays_110 : decode cX10_findWays 110 = .ok (.iconst 1, 1) := by decide +kernel
theorem dX10_findWays_111 : decode cX10_findWays 111 = .ok (.isub, 1) := by decide +kernel
theorem dX10_findWays_112 : decode cX10_findWays 112 = .ok (.bipush 24, 2) := by decide +kernel
theorem dX10_findWays_114 : decode cX10_findWays 114 = .ok (.irem, 1) := by decide +kernel
theorem dX10_findWays_115 : decode cX10_findWays 115 = .ok (.invokevirtual 184, 3) := by decide +kernel
theorem dX10_findWays_118 : decode cX10_findWays 118 = .ok (.iinc 3 1, 3) := by decide +kernel
theorem dX10_findWays_121 : decode cX10_findWays 121 = .ok (.goto (-32), 3) := by decide +kernel
theorem dX10_findWays_124 : decode cX10_findWays 124 = .ok (.aload_n 0, 1) := by decide +kernel
theorem dX10_findWays_125 : decode cX10_findWays 125 = .ok (.iconst 0, 1) := by decide +kernel
theorem dX10_findWays_126 : decode cX10_findWays 126 = .ok (.putfield 188, 3) := by decide +kernel
theorem dX10_findWays_129 : decode cX10_findWays 129 = .ok (.aload_n 0, 1) := by decide +kernel
theorem dX10_findWays_130 : decode cX10_findWays 130 = .ok (.iconst 0, 1) := by decide +kernel
theorem dX10_findWays_131 : decode cX10_findWays 131 = .ok (.putfield 191, 3) := by decide +kernel
theorem dX10_findWays_134 : decode cX10_findWays 134 = .ok (.iconst 0, 1) := by decide +kernel
theorem dX10_findWays_135 : decode cX10_findWays 135 = .ok (.istore_n 3, 1) := by decide +kernel
theorem dX10_findWays_136 : decode cX10_findWays 136 = .ok (.iload_n 3, 1) := by decide +kernel
theorem dX10_findWays_137 : decode cX10_findWays 137 = .ok (.sipush 4608, 3) := by decide +kernel
theorem dX10_findWays_140 : decode cX10_findWays 140 = .ok (.if_icmp .ge 43, 3) := by decide +kernel
theorem dX10_findWays_143 : decode cX10_findWays 143 = .ok (.aload_n 0, 1) := by decide +kernel
theorem dX10_findWays_144 : decode cX10_findWays 144 = .ok (.aload_n 0, 1) := by decide +kernel
theorem dX10_findWays_145 : decode cX10_findWays 145 = .ok (.getfield 188, 3) := by decide +kernel
theorem dX10_findWays_148 : decode cX10_findWays 148 = .ok (.aload_n 0, 1) := by decide +kernel
theorem dX10_findWays_149 : decode cX10_findWays 149 = .ok (.getfield 90, 3) := by decide +kernel
theorem dX10_findWays_152 : decode cX10_findWays 152 = .ok (.iload_n 3, 1) := by decide +kernel
theorem dX10_findWays_153 : decode cX10_findWays 153 = .ok (.iaload, 1) := by decide +kernel
theorem dX10_findWays_154 : decode cX10_findWays 154 = .ok (.invokestatic 194, 3) := by decide +kernel
theorem dX10_findWays_157 : decode cX10_findWays 157 = .ok (.putfield 188, 3) := by decide +kernel
theorem dX10_findWays_160 : decode cX10_findWays 160 = .ok (.aload_n 0, 1) := by decide +kernel
theorem dX10_findWays_161 : decode cX10_findWays 161 = .ok (.aload_n 0, 1) := by decide +kernel
theorem dX10_findWays_162 : decode cX10_findWays 162 = .ok (.getfield 191, 3) := by decide +kernel
theorem dX10_findWays_165 : decode cX10_findWays 165 = .ok (.aload_n 0, 1) := by decide +kernel
theorem dX10_findWays_166 : decode cX10_findWays 166 = .ok (.getfield 93, 3) := by decide +kernel
theorem dX10_findWays_169 : decode cX10_findWays 169 = .ok (.iload_n 3, 1) := by decide +kernel
theorem dX10_findWays_170 : decode cX10_findWays 170 = .ok (.iaload, 1) := by decide +kernel
theorem dX10_findWays_171 : decode cX10_findWays 171 = .ok (.invokestatic 194, 3) := by decide +kernel
theorem dX10_findWays_174 : decode cX10_findWays 174 = .ok (.putfield 191, 3) := by decide +kernel
theorem dX10_findWays_177 : decode cX10_findWays 177 = .ok (.iinc 3 1, 3) := by decide +kernel
theorem dX10_findWays_180 : decode cX10_findWays 180 = .ok (.goto (-44), 3) := by decide +kernel
theorem dX10_findWays_183 : decode cX10_findWays 183 = .ok (.return_, 1) := by decide +kernel
set_option maxRecDepth 20000 in
theorem ggX10_goOn_X10_led : GoodIn wsX10_goOn wsX10_led := goodIn_r _ [13, 14, 15, 16, 17, 12, 18, 19, 20, 21, 22, 23, 24, 25, 26, 27, 32, 33, 34, 35, 36, 37, 38, 39, 40, 41, 42, 43, 44, 45, 46, 47, 48, 49, 50, 51, 52, 53, 54, 55, 56, 57, 58, 59, 60, 61, 62, 63, 64, 65, 66, 67, 68, 69, 70, 71, 72, 73, 74] (by decide +kernel) (by decide +kernel)
set_option maxRecDepth 20000 in
theorem gX10_goOn_X10_led : GoodIn wsX10_goOn (wsV RX10 144 RX10 yX10_led wsX10_led) := goodIn_app (goodIn_of _ (by decide +kernel)) ggX10_goOn_X10_led
set_option maxRecDepth 20000 in
theorem ggX10_goOn_X10_sum : GoodIn wsX10_goOn wsX10_sum := goodIn_r _ [30, 31] (by decide +kernel) (by decide +kernel)
set_option maxRecDepth 20000 in
theorem gX10_goOn_X10_sum : GoodIn wsX10_goOn (va_wsS RX10 194 yX10_sum wsX10_sum) := goodIn_app (goodIn_of _ (by decide +kernel)) ggX10_goOn_X10_sum
theorem dX10_goOn_0 : decode cX10_goOn 0 = .ok (.iconst 0, 1) := by decide +kernel
theorem dX10_goOn_1 : decode cX10_goOn 1 = .ok (.istore 4, 2) := by decide +kernel
theorem dX10_goOn_3 : decode cX10_goOn 3 = .ok (.iload 4, 2) := by decide +kernel
theorem dX10_goOn_5 : decode cX10_goOn 5 = .ok (.sipush 4608, 3) := by decide +kernel
theorem dX10_goOn_8 : decode cX10_goOn 8 = .ok (.if_icmp .ge 25, 3) := by decide +kernel
theorem dX10_goOn_11 : decode cX10_goOn 11 = .ok (.aload_n 0, 1) := by decide +kernel
theorem dX10_goOn_12 : decode cX10_goOn 12 = .ok (.getfield 96, 3) := by decide +kernel
theorem dX10_goOn_15 : decode cX10_goOn 15 = .ok (.iload 4, 2) := by decide +kernel
theorem dX10_goOn_17 : decode cX10_goOn 17 = .ok (.iconst 0, 1) := by decide +kernel
theorem dX10_goOn_18 : decode cX10_goOn 18 = .ok (.iastore, 1) := by decide +kernel
theorem dX10_goOn_19 : decode cX10_goOn 19 = .ok (.aload_n 0, 1) := by decide +kernel
theorem dX10_goOn_20 : decode cX10_goOn 20 = .ok (.getfield 99, 3) := by decide +kernel
theorem dX10_goOn_23 : decode cX10_goOn 23 = .ok (.iload 4, 2) := by decide +kernel
theorem dX10_goOn_25 : decode cX10_goOn 25 = .ok (.iconst 0, 1) := by decide +kernel
theorem dX10_goOn_26 : decode cX10_goOn 26 = .ok (.iastore, 1) := by decide +kernel
theorem dX10_goOn_27 : decode cX10_goOn 27 = .ok (.iinc 4 1, 3) := by decide +kernel
theorem dX10_goOn_30 : decode cX10_goOn 30 = .ok (.goto (-27), 3) := by decide +kernel
theorem dX10_goOn_33 : decode cX10_goOn 33 = .ok (.iconst 0, 1) := by decide +kernel
theorem dX10_goOn_34 : decode cX10_goOn 34 = .ok (.istore 4, 2) := by decide +kernel
theorem dX10_goOn_36 : decode cX10_goOn 36 = .ok (.iload 4, 2) := by decide +kernel
theorem dX10_goOn_38 : decode cX10_goOn 38 = .ok (.sipush 4608, 3) := by decide +kernel
theorem dX10_goOn_41 : decode cX10_goOn 41 = .ok (.if_icmp .ge 301, 3) := by decide +kernel
theorem dX10_goOn_44 : decode cX10_goOn 44 = .ok (.iload 4, 2) := by decide +kernel
theorem dX10_goOn_46 : decode cX10_goOn 46 = .ok (.bipush 8, 2) := by decide +kernel
theorem dX10_goOn_48 : decode cX10_goOn 48 = .ok (.irem, 1) := by decide +kernel
theorem dX10_goOn_49 : decode cX10_goOn 49 = .ok (.istore 5, 2) := by decide +kernel
theorem dX10_goOn_51 : decode cX10_goOn 51 = .ok (.iload 5, 2) := by decide +kernel
theorem dX10_goOn_53 : decode cX10_goOn 53 = .ok (.ifCond .le 283, 3) := by decide +kernel
theorem dX10_goOn_56 : decode cX10_goOn 56 = .ok (.aload_n 0, 1) := by decide +kernel
theorem dX10_goOn_57 : decode cX10_goOn 57 = .ok (.getfield 90, 3) := by decide +kernel
theorem dX10_goOn_60 : decode cX10_goOn 60 = .ok (.iload 4, 2) := by decide +kernel
theorem dX10_goOn_62 : decode cX10_goOn 62 = .ok (.iaload, 1) := by decide +kernel
theorem dX10_goOn_63 : decode cX10_goOn 63 = .ok (.ifCond .gt 13, 3) := by decide +kernel
theorem dX10_goOn_66 : decode cX10_goOn 66 = .ok (.aload_n 0, 1) := by decide +kernel
theorem dX10_goOn_67 : decode cX10_goOn 67 = .ok (.getfield 93, 3) := by decide +kernel
theorem dX10_goOn_70 : decode cX10_goOn 70 = .ok (.iload 4, 2) := by decide +kernel
theorem dX10_goOn_72 : decode cX10_goOn 72 = .ok (.iaload, 1) := by decide +kernel
theorem dX10_goOn_73 : decode cX10_goOn 73 = .ok (.ifCond .le 263, 3) := by decide +kernel
theorem dX10_goOn_76 : decode cX10_goOn 76 = .ok (.iload 4, 2) := by decide +kernel
theorem dX10_goOn_78 : decode cX10_goOn 78 = .ok (.bipush 8, 2) := by decide +kernel
theorem dX10_goOn_80 : decode cX10_goOn 80 = .ok (.idiv, 1) := by decide +kernel
theorem dX10_goOn_81 : decode cX10_goOn 81 = .ok (.istore 6, 2) := by decide +kernel
theorem dX10_goOn_83 : decode cX10_goOn 83 = .ok (.iload 5, 2) := by decide +kernel
theorem dX10_goOn_85 : decode cX10_goOn 85 = .ok (.iconst 1, 1) := by decide +kernel
theorem dX10_goOn_86 : decode cX10_goOn 86 = .ok (.isub, 1) := by decide +kernel
theorem dX10_goOn_87 : decode cX10_goOn 87 = .ok (.istore 7, 2) := by decide +kernel
theorem dX10_goOn_89 : decode cX10_goOn 89 = .ok (.iload 7, 2) := by decide +kernel
theorem dX10_goOn_91 : decode cX10_goOn 91 = .ok (.iload 5, 2) := by decide +kernel
theorem dX10_goOn_93 : decode cX10_goOn 93 = .ok (.iconst 1, 1) := by decide +kernel
theorem dX10_goOn_94 : decode cX10_goOn 94 = .ok (.iadd, 1) := by decide +kernel
theorem dX10_goOn_95 : decode cX10_goOn 95 = .ok (.if_icmp .gt 241, 3) := by decide +kernel
theorem dX10_goOn_98 : decode cX10_goOn 98 = .ok (.iload 7, 2) := by decide +kernel
theorem dX10_goOn_100 : decode cX10_goOn 100 = .ok (.bipush 8, 2) := by decide +kernel
theorem dX10_goOn_102 : decode cX10_goOn 102 = .ok (.if_icmp .ge 234, 3) := by decide +kernel
theorem dX10_goOn_105 : decode cX10_goOn 105 = .ok (.iload 7, 2) := by decide +kernel
theorem dX10_goOn_107 : decode cX10_goOn 107 = .ok (.ifCond .ne 8, 3) := by decide +kernel
theorem dX10_goOn_110 : decode cX10_goOn 110 = .ok (.iload 6, 2) := by decide +kernel
theorem dX10_goOn_112 : decode cX10_goOn 112 = .ok (.goto 21, 3) := by decide +kernel
theorem dX10_goOn_115 : decode cX10_goOn 115 = .ok (.aload_n 0, 1) := by decide +kernel
theorem dX10_goOn_116 : decode cX10_goOn 116 = .ok (.iconst 0, 1) := by decide +kernel
theorem dX10_goOn_117 : decode cX10_goOn 117 = .ok (.iload 7, 2) := by decide +kernel
theorem dX10_goOn_119 : decode cX10_goOn 119 = .ok (.iload_n 3, 1) := by decide +kernel
theorem dX10_goOn_120 : decode cX10_goOn 120 = .ok (.iload 6, 2) := by decide +kernel
theorem dX10_goOn_122 : decode cX10_goOn 122 = .ok (.bipush 24, 2) := by decide +kernel
theorem dX10_goOn_124 : decode cX10_goOn 124 = .ok (.irem, 1) := by decide +kernel
theorem dX10_goOn_125 : decode cX10_goOn 125 = .ok (.iload 6, 2) := by decide +kernel
theorem dX10_goOn_127 : decode cX10_goOn 127 = .ok (.bipush 24, 2) := by decide +kernel
theorem dX10_goOn_129 : decode cX10_goOn 129 = .ok (.idiv, 1) := by decide +kernel
theorem dX10_goOn_130 : decode cX10_goOn 130 = .ok (.invokevirtual 144, 3) := by decide +kernel
theorem dX10_goOn_133 : decode cX10_goOn 133 = .ok (.istore 8, 2) := by decide +kernel
theorem dX10_goOn_135 : decode cX10_goOn 135 = .ok (.aload_n 0, 1) := by decide +kernel
theorem dX10_goOn_136 : decode cX10_goOn 136 = .ok (.getfield 75, 3) := by decide +kernel
theorem dX10_goOn_139 : decode cX10_goOn 139 = .ok (.bipush 61, 2) := by decide +kernel
theorem dX10_goOn_141 : decode cX10_goOn 141 = .ok (.iload_n 1, 1) := by decide +kernel
theorem dX10_goOn_142 : decode cX10_goOn 142 = .ok (.imul, 1) := by decide +kernel
theorem dX10_goOn_143 : decode cX10_goOn 143 = .ok (.iload_n 2, 1) := by decide +kernel
theorem dX10_goOn_144 : decode cX10_goOn 144 = .ok (.iadd, 1) := by decide +kernel
theorem dX10_goOn_145 : decode cX10_goOn 145 = .ok (.baload, 1) := by decide +kernel
theorem dX10_goOn_146 : decode cX10_goOn 146 = .ok (.ifCond .ne 35, 3) := by decide +kernel
theorem dX10_goOn_149 : decode cX10_goOn 149 = .ok (.aload_n 0, 1) := by decide +kernel
theorem dX10_goOn_150 : decode cX10_goOn 150 = .ok (.getfield 69, 3) := by decide +kernel
theorem dX10_goOn_153 : decode cX10_goOn 153 = .ok (.bipush 61, 2) := by decide +kernel
theorem dX10_goOn_155 : decode cX10_goOn 155 = .ok (.iload_n 1, 1) := by decide +kernel
theorem dX10_goOn_156 : decode cX10_goOn 156 = .ok (.imul, 1) := by decide +kernel
theorem dX10_goOn_157 : decode cX10_goOn 157 = .ok (.iload_n 2, 1) := by decide +kernel
theorem dX10_goOn_158 : decode cX10_goOn 158 = .ok (.iadd, 1) := by decide +kernel
theorem dX10_goOn_159 : decode cX10_goOn 159 = .ok (.iaload, 1) := by decide +kernel
theorem dX10_goOn_160 : decode cX10_goOn 160 = .ok (.iload 8, 2) := by decide +kernel
theorem dX10_goOn_162 : decode cX10_goOn 162 = .ok (.if_icmp .ne 23, 3) := by decide +kernel
theorem dX10_goOn_165 : decode cX10_goOn 165 = .ok (.aload_n 0, 1) := by decide +kernel
theorem dX10_goOn_166 : decode cX10_goOn 166 = .ok (.getfield 72, 3) := by decide +kernel
theorem dX10_goOn_169 : decode cX10_goOn 169 = .ok (.bipush 61, 2) := by decide +kernel
theorem dX10_goOn_171 : decode cX10_goOn 171 = .ok (.iload_n 1, 1) := by decide +kernel
theorem dX10_goOn_172 : decode cX10_goOn 172 = .ok (.imul, 1) := by decide +kernel
theorem dX10_goOn_173 : decode cX10_goOn 173 = .ok (.iload_n 2, 1) := by decide +kernel
theorem dX10_goOn_174 : decode cX10_goOn 174 = .ok (.iadd, 1) := by decide +kernel
theorem dX10_goOn_175 : decode cX10_goOn 175 = .ok (.iaload, 1) := by decide +kernel
theorem dX10_goOn_176 : decode cX10_goOn 176 = .ok (.iload 7, 2) := by decide +kernel
theorem dX10_goOn_178 : decode cX10_goOn 178 = .ok (.if_icmp .ne 7, 3) := by decide +kernel
theorem dX10_goOn_181 : decode cX10_goOn 181 = .ok (.iconst 1, 1) := by decide +kernel
theorem dX10_goOn_182 : decode cX10_goOn 182 = .ok (.goto 4, 3) := by decide +kernel
theorem dX10_goOn_185 : decode cX10_goOn 185 = .ok (.iconst 0, 1) := by decide +kernel
theorem dX10_goOn_186 : decode cX10_goOn 186 = .ok (.istore 9, 2) := by decide +kernel
theorem dX10_goOn_188 : decode cX10_goOn 188 = .ok (.iload 9, 2) := by decide +kernel
theorem dX10_goOn_190 : decode cX10_goOn 190 = .ok (.ifCond .eq 63, 3) := by decide +kernel
theorem dX10_goOn_193 : decode cX10_goOn 193 = .ok (.aload_n 0, 1) := by decide +kernel
theorem dX10_goOn_194 : decode cX10_goOn 194 = .ok (.getfield 16, 3) := by decide +kernel
theorem dX10_goOn_197 : decode cX10_goOn 197 = .ok (.iload 8, 2) := by decide +kernel
theorem dX10_goOn_199 : decode cX10_goOn 199 = .ok (.iaload, 1) := by decide +kernel
theorem dX10_goOn_200 : decode cX10_goOn 200 = .ok (.iconst 2, 1) := by decide +kernel
theorem dX10_goOn_201 : decode cX10_goOn 201 = .ok (.if_icmp .ne 52, 3) := by decide +kernel
theorem dX10_goOn_204 : decode cX10_goOn 204 = .ok (.aload_n 0, 1) := by decide +kernel
theorem dX10_goOn_205 : decode cX10_goOn 205 = .ok (.getfield 99, 3) := by decide +kernel
theorem dX10_goOn_208 : decode cX10_goOn 208 = .ok (.bipush 8, 2) := by decide +kernel
theorem dX10_goOn_210 : decode cX10_goOn 210 = .ok (.iload 8, 2) := by decide +kernel
theorem dX10_goOn_212 : decode cX10_goOn 212 = .ok (.imul, 1) := by decide +kernel
theorem dX10_goOn_213 : decode cX10_goOn 213 = .ok (.iload 7, 2) := by decide +kernel
theorem dX10_goOn_215 : decode cX10_goOn 215 = .ok (.iadd, 1) := by decide +kernel
theorem dX10_goOn_216 : decode cX10_goOn 216 = .ok (.aload_n 0, 1) := by decide +kernel
theorem dX10_goOn_217 : decode cX10_goOn 217 = .ok (.getfield 99, 3) := by decide +kernel
theorem dX10_goOn_220 : decode cX10_goOn 220 = .ok (.bipush 8, 2) := by decide +kernel
theorem dX10_goOn_222 : decode cX10_goOn 222 = .ok (.iload 8, 2) := by decide +kernel
theorem dX10_goOn_224 : decode cX10_goOn 224 = .ok (.imul, 1) := by decide +kernel
theorem dX10_goOn_225 : decode cX10_goOn 225 = .ok (.iload 7, 2) := by decide +kernel
theorem dX10_goOn_227 : decode cX10_goOn 227 = .ok (.iadd, 1) := by decide +kernel
theorem dX10_goOn_228 : decode cX10_goOn 228 = .ok (.iaload, 1) := by decide +kernel
theorem dX10_goOn_229 : decode cX10_goOn 229 = .ok (.aload_n 0, 1) := by decide +kernel
theorem dX10_goOn_230 : decode cX10_goOn 230 = .ok (.getfield 90, 3) := by decide +kernel
theorem dX10_goOn_233 : decode cX10_goOn 233 = .ok (.iload 4, 2) := by decide +kernel
theorem dX10_goOn_235 : decode cX10_goOn 235 = .ok (.iaload, 1) := by decide +kernel
theorem dX10_goOn_236 : decode cX10_goOn 236 = .ok (.aload_n 0, 1) := by decide +kernel
theorem dX10_goOn_237 : decode cX10_goOn 237 = .ok (.getfield 93, 3) := by decide +kernel
theorem dX10_goOn_240 : decode cX10_goOn 240 = .ok (.iload 4, 2) := by decide +kernel
theorem dX10_goOn_242 : decode cX10_goOn 242 = .ok (.iaload, 1) := by decide +kernel
theorem dX10_goOn_243 : decode cX10_goOn 243 = .ok (.invokestatic 194, 3) := by decide +kernel
theorem dX10_goOn_246 : decode cX10_goOn 246 = .ok (.invokestatic 194, 3) := by decide +kernel
theorem dX10_goOn_249 : decode cX10_goOn 249 = .ok (.iastore, 1) := by decide +kernel
theorem dX10_goOn_250 : decode cX10_goOn 250 = .ok (.goto 80, 3) := by decide +kernel
theorem dX10_goOn_253 : decode cX10_goOn 253 = .ok (.iload 9, 2) := by decide +kernel
theorem dX10_goOn_255 : decode cX10_goOn 255 = .ok (.ifCond .eq 75, 3) := by decide +kernel
theorem dX10_goOn_258 : decode cX10_goOn 258 = .ok (.aload_n 0, 1) := by decide +kernel
theorem dX10_goOn_259 : decode cX10_goOn 259 = .ok (.getfield 96, 3) := by decide +kernel
theorem dX10_goOn_262 : decode cX10_goOn 262 = .ok (.bipush 8, 2) := by decide +kernel
theorem dX10_goOn_264 : decode cX10_goOn 264 = .ok (.iload 8, 2) := by decide +kernel
theorem dX10_goOn_266 : decode cX10_goOn 266 = .ok (.imul, 1) := by decide +kernel
theorem dX10_goOn_267 : decode cX10_goOn 267 = .ok (.iload 7, 2) := by decide +kernel
theorem dX10_goOn_269 : decode cX10_goOn 269 = .ok (.iadd, 1) := by decide +kernel
theorem dX10_goOn_270 : decode cX10_goOn 270 = .ok (.aload_n 0, 1) := by decide +kernel
theorem dX10_goOn_271 : decode cX10_goOn 271 = .ok (.getfield 96, 3) := by decide +kernel
theorem dX10_goOn_274 : decode cX10_goOn 274 = .ok (.bipush 8, 2) := by decide +kernel
theorem dX10_goOn_276 : decode cX10_goOn 276 = .ok (.iload 8, 2) := by decide +kernel
theorem dX10_goOn_278 : decode cX10_goOn 278 = .ok (.imul, 1) := by decide +kernel
theorem dX10_goOn_279 : decode cX10_goOn 279 = .ok (.iload 7, 2) := by decide +kernel
theorem dX10_goOn_281 : decode cX10_goOn 281 = .ok (.iadd, 1) := by decide +kernel
theorem dX10_goOn_282 : decode cX10_goOn 282 = .ok (.iaload, 1) := by decide +kernel
theorem dX10_goOn_283 : decode cX10_goOn 283 = .ok (.aload_n 0, 1) := by decide +kernel
theorem dX10_goOn_284 : decode cX10_goOn 284 = .ok (.getfield 90, 3) := by decide +kernel
theorem dX10_goOn_287 : decode cX10_goOn 287 = .ok (.iload 4, 2) := by decide +kernel
theorem dX10_goOn_289 : decode cX10_goOn 289 = .ok (.iaload, 1) := by decide +kernel
theorem dX10_goOn_290 : decode cX10_goOn 290 = .ok (.invokestatic 194, 3) := by decide +kernel
theorem dX10_goOn_293 : decode cX10_goOn 293 = .ok (.iastore, 1) := by decide +kernel
theorem dX10_goOn_294 : decode cX10_goOn 294 = .ok (.aload_n 0, 1) := by decide +kernel
theorem dX10_goOn_295 : decode cX10_goOn 295 = .ok (.getfield 99, 3) := by decide +kernel
theorem dX10_goOn_298 : decode cX10_goOn 298 = .ok (.bipush 8, 2) := by decide +kernel
theorem dX10_goOn_300 : decode cX10_goOn 300 = .ok (.iload 8, 2) := by decide +kernel
theorem dX10_goOn_302 : decode cX10_goOn 302 = .ok (.imul, 1) := by decide +kernel
theorem dX10_goOn_303 : decode cX10_goOn 303 = .ok (.iload 7, 2) := by decide +kernel
theorem dX10_goOn_305 : decode cX10_goOn 305 = .ok (.iadd, 1) := by decide +kernel
