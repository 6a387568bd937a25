theorem dL_below_0 : decode cL_below 0 = .ok (.iload_n 0, 1) := by decide +kernel
theorem dL_below_1 : decode cL_below 1 = .ok (.ldc 7, 2) := by decide +kernel
theorem dL_below_3 : decode cL_below 3 = .ok (.iand, 1) := by decide +kernel
theorem dL_below_4 : decode cL_below 4 = .ok (.iload_n 1, 1) := by decide +kernel
theorem dL_below_5 : decode cL_below 5 = .ok (.irem, 1) := by decide +kernel
theorem dL_below_6 : decode cL_below 6 = .ok (.ireturn, 1) := by decide +kernel
theorem dL_cell_0 : decode cL_cell 0 = .ok (.iload_n 1, 1) := by decide +kernel
theorem dL_cell_1 : decode cL_cell 1 = .ok (.aload_n 0, 1) := by decide +kernel
theorem dL_cell_2 : decode cL_cell 2 = .ok (.arraylength, 1) := by decide +kernel
theorem dL_cell_3 : decode cL_cell 3 = .ok (.if_icmp .ge 9, 3) := by decide +kernel
theorem dL_cell_6 : decode cL_cell 6 = .ok (.aload_n 0, 1) := by decide +kernel
theorem dL_cell_7 : decode cL_cell 7 = .ok (.iload_n 1, 1) := by decide +kernel
theorem dL_cell_8 : decode cL_cell 8 = .ok (.iaload, 1) := by decide +kernel
theorem dL_cell_9 : decode cL_cell 9 = .ok (.goto 9, 3) := by decide +kernel
theorem dL_cell_12 : decode cL_cell 12 = .ok (.ldc 8, 2) := by decide +kernel
theorem dL_cell_14 : decode cL_cell 14 = .ok (.iload_n 1, 1) := by decide +kernel
theorem dL_cell_15 : decode cL_cell 15 = .ok (.iconst 3, 1) := by decide +kernel
theorem dL_cell_16 : decode cL_cell 16 = .ok (.iadd, 1) := by decide +kernel
theorem dL_cell_17 : decode cL_cell 17 = .ok (.imul, 1) := by decide +kernel
theorem dL_cell_18 : decode cL_cell 18 = .ok (.ireturn, 1) := by decide +kernel
set_option maxRecDepth 20000 in
theorem ggL_act_L_below : GoodIn wsL_act wsL_below := goodIn_r _ [14, 15] (by decide +kernel) (by decide +kernel)
set_option maxRecDepth 20000 in
theorem gL_act_L_below : GoodIn wsL_act (va_wsS RL 9 yL_below wsL_below) := goodIn_app (goodIn_of _ (by decide +kernel)) ggL_act_L_below
set_option maxRecDepth 20000 in
theorem ggL_act_X2_push : GoodIn wsL_act wsX2_push := goodIn_ca (goodIn_ca (goodIn_ca (goodIn_r _ [20, 21, 22, 23, 24, 25, 26, 27, 28, 19, 29, 30, 31, 32, 33, 34, 35, 36, 37, 38, 39, 40, 41, 42, 43, 44, 45, 46, 47, 48, 102, 103, 104, 105, 106, 107, 108, 109, 110, 111, 112, 113, 114, 115] (by decide +kernel) (by decide +kernel)) (goodIn_sub (fun _ h => List.mem_cons_of_mem _ (List.mem_append_left _ (List.mem_append_left _ (List.mem_append_right _ h)))) (by decide +kernel))) (goodIn_sub (fun _ h => List.mem_cons_of_mem _ (List.mem_append_left _ (List.mem_append_right _ h))) (by decide +kernel))) (goodIn_sub (fun _ h => List.mem_cons_of_mem _ (List.mem_append_right _ h)) (by decide +kernel))
set_option maxRecDepth 20000 in
theorem gL_act_X2_push : GoodIn wsL_act (wsV RL 21 RX2 yX2_push wsX2_push) := goodIn_app (goodIn_of _ (by decide +kernel)) ggL_act_X2_push
set_option maxRecDepth 20000 in
theorem ggL_act_X3_tone : GoodIn wsL_act wsX3_tone := goodIn_r _ [53, 54, 55, 96, 97, 98, 99, 100, 101] (by decide +kernel) (by decide +kernel)
set_option maxRecDepth 20000 in
theorem gL_act_X3_tone : GoodIn wsL_act (wsV RL 26 RX3 yX3_tone wsX3_tone) := goodIn_app (goodIn_of _ (by decide +kernel)) ggL_act_X3_tone
set_option maxRecDepth 20000 in
theorem ggL_act_X2_draw : GoodIn wsL_act wsX2_draw := goodIn_ca (goodIn_ca (goodIn_r _ [59, 21, 22, 25, 27, 28, 19, 29, 30, 31, 60, 61, 62, 38, 63, 46, 47, 64, 45, 41, 42, 43, 44, 40, 48, 102, 103, 104, 105, 106, 107, 108, 109, 110, 111, 112, 113, 114, 115] (by decide +kernel) (by decide +kernel)) (goodIn_sub (fun _ h => List.mem_cons_of_mem _ (List.mem_append_left _ (List.mem_append_left _ (List.mem_append_right _ h)))) (by decide +kernel))) (goodIn_sub (fun _ h => List.mem_cons_of_mem _ (List.mem_append_right _ h)) (by decide +kernel))
set_option maxRecDepth 20000 in
theorem gL_act_X2_draw : GoodIn wsL_act (wsV RL 30 RX2 yX2_draw wsX2_draw) := goodIn_app (goodIn_of _ (by decide +kernel)) ggL_act_X2_draw
set_option maxRecDepth 20000 in
theorem ggL_act_X2_setWeather : GoodIn wsL_act wsX2_setWeather := goodIn_ca (goodIn_ca (goodIn_r _ [68, 30, 31, 21, 22, 69, 70, 71, 72, 73, 19, 74, 102, 103, 104, 105, 106, 107] (by decide +kernel) (by decide +kernel)) (goodIn_sub (fun _ h => List.mem_cons_of_mem _ (List.mem_append_right _ h)) (by decide +kernel))) (goodIn_sub (fun _ h => List.mem_cons_of_mem _ (List.mem_append_left _ (List.mem_append_left _ (List.mem_append_right _ h)))) (by decide +kernel))
set_option maxRecDepth 20000 in
theorem gL_act_X2_setWeather : GoodIn wsL_act (wsV RL 40 RX2 yX2_setWeather wsX2_setWeather) := goodIn_app (goodIn_of _ (by decide +kernel)) ggL_act_X2_setWeather
set_option maxRecDepth 20000 in
theorem ggL_act_X2_chord : GoodIn wsL_act wsX2_chord := goodIn_ca (goodIn_ca (goodIn_ca (goodIn_r _ [78, 21, 22, 23, 24, 79, 80, 27, 28, 19, 29, 30, 31, 81, 82, 83, 84, 85, 86, 87, 88, 89, 90, 91, 92, 93, 94, 95, 102, 103, 104, 105, 106, 107, 116, 117, 118] (by decide +kernel) (by decide +kernel)) (goodIn_sub (fun _ h => List.mem_cons_of_mem _ (List.mem_append_left _ (List.mem_append_left _ (List.mem_append_right _ h)))) (by decide +kernel))) (goodIn_sub (fun _ h => List.mem_cons_of_mem _ (List.mem_append_left _ (List.mem_append_right _ h))) (by decide +kernel))) (goodIn_sub (fun _ h => List.mem_cons_of_mem _ (List.mem_append_right _ h)) (by decide +kernel))
set_option maxRecDepth 20000 in
theorem gL_act_X2_chord : GoodIn wsL_act (wsV RL 53 RX2 yX2_chord wsX2_chord) := goodIn_app (goodIn_of _ (by decide +kernel)) ggL_act_X2_chord
theorem dL_act_0 : decode cL_act 0 = .ok (.iload_n 2, 1) := by decide +kernel
theorem dL_act_1 : decode cL_act 1 = .ok (.bipush 12, 2) := by decide +kernel
theorem dL_act_3 : decode cL_act 3 = .ok (.invokestatic 9, 3) := by decide +kernel
theorem dL_act_6 : decode cL_act 6 = .ok (.istore_n 3, 1) := by decide +kernel
theorem dL_act_7 : decode cL_act 7 = .ok (.aload_n 1, 1) := by decide +kernel
theorem dL_act_8 : decode cL_act 8 = .ok (.getfield 15, 3) := by decide +kernel
theorem dL_act_11 : decode cL_act 11 = .ok (.iload_n 3, 1) := by decide +kernel
theorem dL_act_12 : decode cL_act 12 = .ok (.aaload, 1) := by decide +kernel
theorem dL_act_13 : decode cL_act 13 = .ok (.astore 4, 2) := by decide +kernel
theorem dL_act_15 : decode cL_act 15 = .ok (.iload_n 2, 1) := by decide +kernel
theorem dL_act_16 : decode cL_act 16 = .ok (.bipush 8, 2) := by decide +kernel
theorem dL_act_18 : decode cL_act 18 = .ok (.ishr, 1) := by decide +kernel
theorem dL_act_19 : decode cL_act 19 = .ok (.bipush 6, 2) := by decide +kernel
theorem dL_act_21 : decode cL_act 21 = .ok (.invokestatic 9, 3) := by decide +kernel
theorem dL_act_24 : decode cL_act 24 = .ok (.tableswitch 309 0 3 #[32, 32, 103, 202], 32) := by decide +kernel
theorem dL_act_56 : decode cL_act 56 = .ok (.iload_n 2, 1) := by decide +kernel
theorem dL_act_57 : decode cL_act 57 = .ok (.iconst 3, 1) := by decide +kernel
theorem dL_act_58 : decode cL_act 58 = .ok (.ishr, 1) := by decide +kernel
theorem dL_act_59 : decode cL_act 59 = .ok (.bipush 9, 2) := by decide +kernel
theorem dL_act_61 : decode cL_act 61 = .ok (.invokestatic 9, 3) := by decide +kernel
theorem dL_act_64 : decode cL_act 64 = .ok (.iconst 4, 1) := by decide +kernel
theorem dL_act_65 : decode cL_act 65 = .ok (.isub, 1) := by decide +kernel
theorem dL_act_66 : decode cL_act 66 = .ok (.istore 5, 2) := by decide +kernel
theorem dL_act_68 : decode cL_act 68 = .ok (.iload 5, 2) := by decide +kernel
theorem dL_act_70 : decode cL_act 70 = .ok (.ifCond .eq 25, 3) := by decide +kernel
theorem dL_act_73 : decode cL_act 73 = .ok (.aload 4, 2) := by decide +kernel
theorem dL_act_75 : decode cL_act 75 = .ok (.iconst 1, 1) := by decide +kernel
theorem dL_act_76 : decode cL_act 76 = .ok (.iaload, 1) := by decide +kernel
theorem dL_act_77 : decode cL_act 77 = .ok (.iload 5, 2) := by decide +kernel
theorem dL_act_79 : decode cL_act 79 = .ok (.iadd, 1) := by decide +kernel
theorem dL_act_80 : decode cL_act 80 = .ok (.ifCond .lt 15, 3) := by decide +kernel
theorem dL_act_83 : decode cL_act 83 = .ok (.aload 4, 2) := by decide +kernel
theorem dL_act_85 : decode cL_act 85 = .ok (.iconst 1, 1) := by decide +kernel
theorem dL_act_86 : decode cL_act 86 = .ok (.iaload, 1) := by decide +kernel
theorem dL_act_87 : decode cL_act 87 = .ok (.iload 5, 2) := by decide +kernel
theorem dL_act_89 : decode cL_act 89 = .ok (.iadd, 1) := by decide +kernel
theorem dL_act_90 : decode cL_act 90 = .ok (.bipush 20, 2) := by decide +kernel
theorem dL_act_92 : decode cL_act 92 = .ok (.if_icmp .le 5, 3) := by decide +kernel
theorem dL_act_95 : decode cL_act 95 = .ok (.iconst 1, 1) := by decide +kernel
theorem dL_act_96 : decode cL_act 96 = .ok (.ireturn, 1) := by decide +kernel
theorem dL_act_97 : decode cL_act 97 = .ok (.aload 4, 2) := by decide +kernel
theorem dL_act_99 : decode cL_act 99 = .ok (.iconst 1, 1) := by decide +kernel
theorem dL_act_100 : decode cL_act 100 = .ok (.dup2, 1) := by decide +kernel
theorem dL_act_101 : decode cL_act 101 = .ok (.iaload, 1) := by decide +kernel
theorem dL_act_102 : decode cL_act 102 = .ok (.iload 5, 2) := by decide +kernel
theorem dL_act_104 : decode cL_act 104 = .ok (.iadd, 1) := by decide +kernel
theorem dL_act_105 : decode cL_act 105 = .ok (.iastore, 1) := by decide +kernel
theorem dL_act_106 : decode cL_act 106 = .ok (.aload_n 0, 1) := by decide +kernel
theorem dL_act_107 : decode cL_act 107 = .ok (.iload_n 3, 1) := by decide +kernel
theorem dL_act_108 : decode cL_act 108 = .ok (.iload 5, 2) := by decide +kernel
theorem dL_act_110 : decode cL_act 110 = .ok (.invokevirtual 21, 3) := by decide +kernel
theorem dL_act_113 : decode cL_act 113 = .ok (.aload_n 1, 1) := by decide +kernel
theorem dL_act_114 : decode cL_act 114 = .ok (.iload_n 3, 1) := by decide +kernel
theorem dL_act_115 : decode cL_act 115 = .ok (.invokevirtual 26, 3) := by decide +kernel
theorem dL_act_118 : decode cL_act 118 = .ok (.if_icmp .ne 7, 3) := by decide +kernel
theorem dL_act_121 : decode cL_act 121 = .ok (.iconst 1, 1) := by decide +kernel
theorem dL_act_122 : decode cL_act 122 = .ok (.goto 4, 3) := by decide +kernel
theorem dL_act_125 : decode cL_act 125 = .ok (.iconst 0, 1) := by decide +kernel
theorem dL_act_126 : decode cL_act 126 = .ok (.ireturn, 1) := by decide +kernel
theorem dL_act_127 : decode cL_act 127 = .ok (.aload 4, 2) := by decide +kernel
theorem dL_act_129 : decode cL_act 129 = .ok (.iconst 4, 1) := by decide +kernel
theorem dL_act_130 : decode cL_act 130 = .ok (.iaload, 1) := by decide +kernel
theorem dL_act_131 : decode cL_act 131 = .ok (.iconst 1, 1) := by decide +kernel
theorem dL_act_132 : decode cL_act 132 = .ok (.if_icmp .ne 15, 3) := by decide +kernel
theorem dL_act_135 : decode cL_act 135 = .ok (.iload_n 2, 1) := by decide +kernel
theorem dL_act_136 : decode cL_act 136 = .ok (.iconst 5, 1) := by decide +kernel
theorem dL_act_137 : decode cL_act 137 = .ok (.ishr, 1) := by decide +kernel
theorem dL_act_138 : decode cL_act 138 = .ok (.iconst 3, 1) := by decide +kernel
theorem dL_act_139 : decode cL_act 139 = .ok (.invokestatic 9, 3) := by decide +kernel
theorem dL_act_142 : decode cL_act 142 = .ok (.ifCond .le 5, 3) := by decide +kernel
theorem dL_act_145 : decode cL_act 145 = .ok (.iconst 1, 1) := by decide +kernel
theorem dL_act_146 : decode cL_act 146 = .ok (.ireturn, 1) := by decide +kernel
theorem dL_act_147 : decode cL_act 147 = .ok (.aload_n 1, 1) := by decide +kernel
theorem dL_act_148 : decode cL_act 148 = .ok (.getfield 15, 3) := by decide +kernel
theorem dL_act_151 : decode cL_act 151 = .ok (.iload_n 3, 1) := by decide +kernel
theorem dL_act_152 : decode cL_act 152 = .ok (.bipush 6, 2) := by decide +kernel
theorem dL_act_154 : decode cL_act 154 = .ok (.newarray .int, 2) := by decide +kernel
theorem dL_act_156 : decode cL_act 156 = .ok (.dup, 1) := by decide +kernel
theorem dL_act_157 : decode cL_act 157 = .ok (.iconst 0, 1) := by decide +kernel
theorem dL_act_158 : decode cL_act 158 = .ok (.bipush 100, 2) := by decide +kernel
theorem dL_act_160 : decode cL_act 160 = .ok (.iload_n 2, 1) := by decide +kernel
theorem dL_act_161 : decode cL_act 161 = .ok (.bipush 7, 2) := by decide +kernel
theorem dL_act_163 : decode cL_act 163 = .ok (.imul, 1) := by decide +kernel
theorem dL_act_164 : decode cL_act 164 = .ok (.sipush 801, 3) := by decide +kernel
theorem dL_act_167 : decode cL_act 167 = .ok (.invokestatic 9, 3) := by decide +kernel
theorem dL_act_170 : decode cL_act 170 = .ok (.iadd, 1) := by decide +kernel
theorem dL_act_171 : decode cL_act 171 = .ok (.iastore, 1) := by decide +kernel
theorem dL_act_172 : decode cL_act 172 = .ok (.dup, 1) := by decide +kernel
theorem dL_act_173 : decode cL_act 173 = .ok (.iconst 1, 1) := by decide +kernel
theorem dL_act_174 : decode cL_act 174 = .ok (.aload 4, 2) := by decide +kernel
theorem dL_act_176 : decode cL_act 176 = .ok (.iconst 1, 1) := by decide +kernel
theorem dL_act_177 : decode cL_act 177 = .ok (.iaload, 1) := by decide +kernel
theorem dL_act_178 : decode cL_act 178 = .ok (.iastore, 1) := by decide +kernel
theorem dL_act_179 : decode cL_act 179 = .ok (.dup, 1) := by decide +kernel
theorem dL_act_180 : decode cL_act 180 = .ok (.iconst 2, 1) := by decide +kernel
theorem dL_act_181 : decode cL_act 181 = .ok (.iconst 0, 1) := by decide +kernel
theorem dL_act_182 : decode cL_act 182 = .ok (.iastore, 1) := by decide +kernel
theorem dL_act_183 : decode cL_act 183 = .ok (.dup, 1) := by decide +kernel
theorem dL_act_184 : decode cL_act 184 = .ok (.iconst 3, 1) := by decide +kernel
theorem dL_act_185 : decode cL_act 185 = .ok (.iconst 0, 1) := by decide +kernel
theorem dL_act_186 : decode cL_act 186 = .ok (.iastore, 1) := by decide +kernel
theorem dL_act_187 : decode cL_act 187 = .ok (.dup, 1) := by decide +kernel
theorem dL_act_188 : decode cL_act 188 = .ok (.iconst 4, 1) := by decide +kernel
theorem dL_act_189 : decode cL_act 189 = .ok (.iconst 1, 1) := by decide +kernel
theorem dL_act_190 : decode cL_act 190 = .ok (.iastore, 1) := by decide +kernel
theorem dL_act_191 : decode cL_act 191 = .ok (.dup, 1) := by decide +kernel
theorem dL_act_192 : decode cL_act 192 = .ok (.iconst 5, 1) := by decide +kernel
theorem dL_act_193 : decode cL_act 193 = .ok (.aload 4, 2) := by decide +kernel
theorem dL_act_195 : decode cL_act 195 = .ok (.iconst 5, 1) := by decide +kernel
theorem dL_act_196 : decode cL_act 196 = .ok (.iaload, 1) := by decide +kernel
theorem dL_act_197 : decode cL_act 197 = .ok (.iastore, 1) := by decide +kernel
theorem dL_act_198 : decode cL_act 198 = .ok (.aastore, 1) := by decide +kernel
theorem dL_act_199 : decode cL_act 199 = .ok (.aload_n 0, 1) := by decide +kernel
theorem dL_act_200 : decode cL_act 200 = .ok (.iload_n 3, 1) := by decide +kernel
theorem dL_act_201 : decode cL_act 201 = .ok (.aload_n 1, 1) := by decide +kernel
theorem dL_act_202 : decode cL_act 202 = .ok (.getfield 15, 3) := by decide +kernel
theorem dL_act_205 : decode cL_act 205 = .ok (.iload_n 3, 1) := by decide +kernel
theorem dL_act_206 : decode cL_act 206 = .ok (.aaload, 1) := by decide +kernel
theorem dL_act_207 : decode cL_act 207 = .ok (.iconst 0, 1) := by decide +kernel
theorem dL_act_208 : decode cL_act 208 = .ok (.iaload, 1) := by decide +kernel
theorem dL_act_209 : decode cL_act 209 = .ok (.invokevirtual 30, 3) := by decide +kernel
theorem dL_act_212 : decode cL_act 212 = .ok (.aload_n 1, 1) := by decide +kernel
theorem dL_act_213 : decode cL_act 213 = .ok (.iload_n 3, 1) := by decide +kernel
theorem dL_act_214 : decode cL_act 214 = .ok (.invokevirtual 26, 3) := by decide +kernel
theorem dL_act_217 : decode cL_act 217 = .ok (.if_icmp .ne 7, 3) := by decide +kernel
theorem dL_act_220 : decode cL_act 220 = .ok (.iconst 1, 1) := by decide +kernel
theorem dL_act_221 : decode cL_act 221 = .ok (.goto 4, 3) := by decide +kernel
theorem dL_act_224 : decode cL_act 224 = .ok (.iconst 0, 1) := by decide +kernel
theorem dL_act_225 : decode cL_act 225 = .ok (.ireturn, 1) := by decide +kernel
theorem dL_act_226 : decode cL_act 226 = .ok (.iload_n 2, 1) := by decide +kernel
theorem dL_act_227 : decode cL_act 227 = .ok (.iconst 2, 1) := by decide +kernel
theorem dL_act_228 : decode cL_act 228 = .ok (.ishr, 1) := by decide +kernel
theorem dL_act_229 : decode cL_act 229 = .ok (.bipush 12, 2) := by decide +kernel
theorem dL_act_231 : decode cL_act 231 = .ok (.invokestatic 9, 3) := by decide +kernel
theorem dL_act_234 : decode cL_act 234 = .ok (.istore 6, 2) := by decide +kernel
theorem dL_act_236 : decode cL_act 236 = .ok (.bipush 10, 2) := by decide +kernel
theorem dL_act_238 : decode cL_act 238 = .ok (.aload_n 1, 1) := by decide +kernel
theorem dL_act_239 : decode cL_act 239 = .ok (.getfield 33, 3) := by decide +kernel
theorem dL_act_242 : decode cL_act 242 = .ok (.iload 6, 2) := by decide +kernel
theorem dL_act_244 : decode cL_act 244 = .ok (.iaload, 1) := by decide +kernel
theorem dL_act_245 : decode cL_act 245 = .ok (.imul, 1) := by decide +kernel
theorem dL_act_246 : decode cL_act 246 = .ok (.aload_n 1, 1) := by decide +kernel
theorem dL_act_247 : decode cL_act 247 = .ok (.getfield 37, 3) := by decide +kernel
theorem dL_act_250 : decode cL_act 250 = .ok (.iload 6, 2) := by decide +kernel
theorem dL_act_252 : decode cL_act 252 = .ok (.iaload, 1) := by decide +kernel
theorem dL_act_253 : decode cL_act 253 = .ok (.iadd, 1) := by decide +kernel
theorem dL_act_254 : decode cL_act 254 = .ok (.istore 7, 2) := by decide +kernel
theorem dL_act_256 : decode cL_act 256 = .ok (.aload_n 1, 1) := by decide +kernel
theorem dL_act_257 : decode cL_act 257 = .ok (.getfield 33, 3) := by decide +kernel
theorem dL_act_260 : decode cL_act 260 = .ok (.iload 6, 2) := by decide +kernel
theorem dL_act_262 : decode cL_act 262 = .ok (.iload_n 2, 1) := by decide +kernel
theorem dL_act_263 : decode cL_act 263 = .ok (.iconst 3, 1) := by decide +kernel
theorem dL_act_264 : decode cL_act 264 = .ok (.ishr, 1) := by decide +kernel
theorem dL_act_265 : decode cL_act 265 = .ok (.iload_n 2, 1) := by decide +kernel
theorem dL_act_266 : decode cL_act 266 = .ok (.bipush 6, 2) := by decide +kernel
theorem dL_act_268 : decode cL_act 268 = .ok (.ishr, 1) := by decide +kernel
theorem dL_act_269 : decode cL_act 269 = .ok (.iconst 2, 1) := by decide +kernel
theorem dL_act_270 : decode cL_act 270 = .ok (.invokestatic 9, 3) := by decide +kernel
theorem dL_act_273 : decode cL_act 273 = .ok (.ifCond .ne 8, 3) := by decide +kernel
theorem dL_act_276 : decode cL_act 276 = .ok (.bipush 21, 2) := by decide +kernel
theorem dL_act_278 : decode cL_act 278 = .ok (.goto 5, 3) := by decide +kernel
theorem dL_act_281 : decode cL_act 281 = .ok (.bipush 8, 2) := by decide +kernel
theorem dL_act_283 : decode cL_act 283 = .ok (.invokestatic 9, 3) := by decide +kernel
theorem dL_act_286 : decode cL_act 286 = .ok (.iastore, 1) := by decide +kernel
theorem dL_act_287 : decode cL_act 287 = .ok (.aload_n 1, 1) := by decide +kernel
theorem dL_act_288 : decode cL_act 288 = .ok (.getfield 37, 3) := by decide +kernel
theorem dL_act_291 : decode cL_act 291 = .ok (.iload 6, 2) := by decide +kernel
theorem dL_act_293 : decode cL_act 293 = .ok (.iload_n 2, 1) := by decide +kernel
theorem dL_act_294 : decode cL_act 294 = .ok (.iconst 5, 1) := by decide +kernel
theorem dL_act_295 : decode cL_act 295 = .ok (.ishr, 1) := by decide +kernel
theorem dL_act_296 : decode cL_act 296 = .ok (.bipush 10, 2) := by decide +kernel
theorem dL_act_298 : decode cL_act 298 = .ok (.invokestatic 9, 3) := by decide +kernel
theorem dL_act_301 : decode cL_act 301 = .ok (.iastore, 1) := by decide +kernel
theorem dL_act_302 : decode cL_act 302 = .ok (.aload_n 0, 1) := by decide +kernel
theorem dL_act_303 : decode cL_act 303 = .ok (.iload 6, 2) := by decide +kernel
theorem dL_act_305 : decode cL_act 305 = .ok (.aload_n 1, 1) := by decide +kernel
theorem dL_act_306 : decode cL_act 306 = .ok (.getfield 33, 3) := by decide +kernel
theorem dL_act_309 : decode cL_act 309 = .ok (.iload 6, 2) := by decide +kernel
theorem dL_act_311 : decode cL_act 311 = .ok (.iaload, 1) := by decide +kernel
theorem dL_act_312 : decode cL_act 312 = .ok (.aload_n 1, 1) := by decide +kernel
theorem dL_act_313 : decode cL_act 313 = .ok (.getfield 37, 3) := by decide +kernel
theorem dL_act_316 : decode cL_act 316 = .ok (.iload 6, 2) := by decide +kernel
theorem dL_act_318 : decode cL_act 318 = .ok (.iaload, 1) := by decide +kernel
theorem dL_act_319 : decode cL_act 319 = .ok (.invokevirtual 40, 3) := by decide +kernel
theorem dL_act_322 : decode cL_act 322 = .ok (.iload 7, 2) := by decide +kernel
theorem dL_act_324 : decode cL_act 324 = .ok (.if_icmp .ne 7, 3) := by decide +kernel
theorem dL_act_327 : decode cL_act 327 = .ok (.iconst 1, 1) := by decide +kernel
theorem dL_act_328 : decode cL_act 328 = .ok (.goto 4, 3) := by decide +kernel
theorem dL_act_331 : decode cL_act 331 = .ok (.iconst 0, 1) := by decide +kernel
theorem dL_act_332 : decode cL_act 332 = .ok (.ireturn, 1) := by decide +kernel
theorem dL_act_333 : decode cL_act 333 = .ok (.aload_n 1, 1) := by decide +kernel
theorem dL_act_334 : decode cL_act 334 = .ok (.getfield 44, 3) := by decide +kernel
theorem dL_act_337 : decode cL_act 337 = .ok (.arraylength, 1) := by decide +kernel
theorem dL_act_338 : decode cL_act 338 = .ok (.bipush 6, 2) := by decide +kernel
theorem dL_act_340 : decode cL_act 340 = .ok (.if_icmp .ne 5, 3) := by decide +kernel
theorem dL_act_343 : decode cL_act 343 = .ok (.iconst 1, 1) := by decide +kernel
theorem dL_act_344 : decode cL_act 344 = .ok (.ireturn, 1) := by decide +kernel
theorem dL_act_345 : decode cL_act 345 = .ok (.iconst 2, 1) := by decide +kernel
theorem dL_act_346 : decode cL_act 346 = .ok (.iload_n 2, 1) := by decide +kernel
theorem dL_act_347 : decode cL_act 347 = .ok (.iconst 2, 1) := by decide +kernel
theorem dL_act_348 : decode cL_act 348 = .ok (.ishr, 1) := by decide +kernel
theorem dL_act_349 : decode cL_act 349 = .ok (.iconst 3, 1) := by decide +kernel
theorem dL_act_350 : decode cL_act 350 = .ok (.invokestatic 9, 3) := by decide +kernel
theorem dL_act_353 : decode cL_act 353 = .ok (.iadd, 1) := by decide +kernel
theorem dL_act_354 : decode cL_act 354 = .ok (.istore 8, 2) := by decide +kernel
theorem dL_act_356 : decode cL_act 356 = .ok (.iload_n 3, 1) := by decide +kernel
theorem dL_act_357 : decode cL_act 357 = .ok (.iload 8, 2) := by decide +kernel
theorem dL_act_359 : decode cL_act 359 = .ok (.iadd, 1) := by decide +kernel
theorem dL_act_360 : decode cL_act 360 = .ok (.bipush 12, 2) := by decide +kernel
theorem dL_act_362 : decode cL_act 362 = .ok (.if_icmp .le 5, 3) := by decide +kernel
theorem dL_act_365 : decode cL_act 365 = .ok (.iconst 1, 1) := by decide +kernel
theorem dL_act_366 : decode cL_act 366 = .ok (.ireturn, 1) := by decide +kernel
theorem dL_act_367 : decode cL_act 367 = .ok (.iconst 1, 1) := by decide +kernel
theorem dL_act_368 : decode cL_act 368 = .ok (.iload 8, 2) := by decide +kernel
theorem dL_act_370 : decode cL_act 370 = .ok (.iadd, 1) := by decide +kernel
theorem dL_act_371 : decode cL_act 371 = .ok (.newarray .int, 2) := by decide +kernel
theorem dL_act_373 : decode cL_act 373 = .ok (.astore 9, 2) := by decide +kernel
theorem dL_act_375 : decode cL_act 375 = .ok (.aload 9, 2) := by decide +kernel
theorem dL_act_377 : decode cL_act 377 = .ok (.iconst 0, 1) := by decide +kernel
theorem dL_act_378 : decode cL_act 378 = .ok (.iload_n 3, 1) := by decide +kernel
theorem dL_act_379 : decode cL_act 379 = .ok (.iastore, 1) := by decide +kernel
theorem dL_act_380 : decode cL_act 380 = .ok (.iconst 1, 1) := by decide +kernel
theorem dL_act_381 : decode cL_act 381 = .ok (.istore 10, 2) := by decide +kernel
theorem dL_act_383 : decode cL_act 383 = .ok (.iload 10, 2) := by decide +kernel
theorem dL_act_385 : decode cL_act 385 = .ok (.iload 8, 2) := by decide +kernel
theorem dL_act_387 : decode cL_act 387 = .ok (.if_icmp .gt 77, 3) := by decide +kernel
theorem dL_act_390 : decode cL_act 390 = .ok (.aload 9, 2) := by decide +kernel
theorem dL_act_392 : decode cL_act 392 = .ok (.iload 10, 2) := by decide +kernel
theorem dL_act_394 : decode cL_act 394 = .ok (.iconst 1, 1) := by decide +kernel
theorem dL_act_395 : decode cL_act 395 = .ok (.aload_n 1, 1) := by decide +kernel
theorem dL_act_396 : decode cL_act 396 = .ok (.iload_n 3, 1) := by decide +kernel
theorem dL_act_397 : decode cL_act 397 = .ok (.iload 10, 2) := by decide +kernel
theorem dL_act_399 : decode cL_act 399 = .ok (.iadd, 1) := by decide +kernel
theorem dL_act_400 : decode cL_act 400 = .ok (.iconst 1, 1) := by decide +kernel
theorem dL_act_401 : decode cL_act 401 = .ok (.isub, 1) := by decide +kernel
theorem dL_act_402 : decode cL_act 402 = .ok (.invokevirtual 26, 3) := by decide +kernel
theorem dL_act_405 : decode cL_act 405 = .ok (.iload_n 2, 1) := by decide +kernel
theorem dL_act_406 : decode cL_act 406 = .ok (.iload 10, 2) := by decide +kernel
theorem dL_act_408 : decode cL_act 408 = .ok (.ishr, 1) := by decide +kernel
theorem dL_act_409 : decode cL_act 409 = .ok (.iconst 5, 1) := by decide +kernel
theorem dL_act_410 : decode cL_act 410 = .ok (.iload 10, 2) := by decide +kernel
theorem dL_act_412 : decode cL_act 412 = .ok (.imul, 1) := by decide +kernel
theorem dL_act_413 : decode cL_act 413 = .ok (.iadd, 1) := by decide +kernel
theorem dL_act_414 : decode cL_act 414 = .ok (.iload_n 2, 1) := by decide +kernel
theorem dL_act_415 : decode cL_act 415 = .ok (.bipush 6, 2) := by decide +kernel
theorem dL_act_417 : decode cL_act 417 = .ok (.ishr, 1) := by decide +kernel
theorem dL_act_418 : decode cL_act 418 = .ok (.iconst 2, 1) := by decide +kernel
theorem dL_act_419 : decode cL_act 419 = .ok (.invokestatic 9, 3) := by decide +kernel
theorem dL_act_422 : decode cL_act 422 = .ok (.ifCond .ne 8, 3) := by decide +kernel
theorem dL_act_425 : decode cL_act 425 = .ok (.bipush 9, 2) := by decide +kernel
theorem dL_act_427 : decode cL_act 427 = .ok (.goto 5, 3) := by decide +kernel
theorem dL_act_430 : decode cL_act 430 = .ok (.bipush 61, 2) := by decide +kernel
theorem dL_act_432 : decode cL_act 432 = .ok (.invokestatic 9, 3) := by decide +kernel
theorem dL_act_435 : decode cL_act 435 = .ok (.iadd, 1) := by decide +kernel
theorem dL_act_436 : decode cL_act 436 = .ok (.iload_n 2, 1) := by decide +kernel
theorem dL_act_437 : decode cL_act 437 = .ok (.bipush 6, 2) := by decide +kernel
theorem dL_act_439 : decode cL_act 439 = .ok (.ishr, 1) := by decide +kernel
theorem dL_act_440 : decode cL_act 440 = .ok (.iconst 2, 1) := by decide +kernel
theorem dL_act_441 : decode cL_act 441 = .ok (.invokestatic 9, 3) := by decide +kernel
theorem dL_act_444 : decode cL_act 444 = .ok (.ifCond .ne 7, 3) := by decide +kernel
theorem dL_act_447 : decode cL_act 447 = .ok (.iconst 4, 1) := by decide +kernel
theorem dL_act_448 : decode cL_act 448 = .ok (.goto 5, 3) := by decide +kernel
theorem dL_act_451 : decode cL_act 451 = .ok (.bipush 30, 2) := by decide +kernel
theorem dL_act_453 : decode cL_act 453 = .ok (.isub, 1) := by decide +kernel
theorem dL_act_454 : decode cL_act 454 = .ok (.invokestatic 47, 3) := by decide +kernel
theorem dL_act_457 : decode cL_act 457 = .ok (.iastore, 1) := by decide +kernel
theorem dL_act_458 : decode cL_act 458 = .ok (.iinc 10 1, 3) := by decide +kernel
theorem dL_act_461 : decode cL_act 461 = .ok (.goto (-78), 3) := by decide +kernel
theorem dL_act_464 : decode cL_act 464 = .ok (.aload_n 1, 1) := by decide +kernel
theorem dL_act_465 : decode cL_act 465 = .ok (.getfield 44, 3) := by decide +kernel
theorem dL_act_468 : decode cL_act 468 = .ok (.arraylength, 1) := by decide +kernel
theorem dL_act_469 : decode cL_act 469 = .ok (.iconst 1, 1) := by decide +kernel
theorem dL_act_470 : decode cL_act 470 = .ok (.iadd, 1) := by decide +kernel
theorem dL_act_471 : decode cL_act 471 = .ok (.anewarray 52, 3) := by decide +kernel
theorem dL_act_474 : decode cL_act 474 = .ok (.astore 10, 2) := by decide +kernel
theorem dL_act_476 : decode cL_act 476 = .ok (.iconst 0, 1) := by decide +kernel
theorem dL_act_477 : decode cL_act 477 = .ok (.istore 11, 2) := by decide +kernel
theorem dL_act_479 : decode cL_act 479 = .ok (.iload 11, 2) := by decide +kernel
theorem dL_act_481 : decode cL_act 481 = .ok (.aload_n 1, 1) := by decide +kernel
theorem dL_act_482 : decode cL_act 482 = .ok (.getfield 44, 3) := by decide +kernel
theorem dL_act_485 : decode cL_act 485 = .ok (.arraylength, 1) := by decide +kernel
theorem dL_act_486 : decode cL_act 486 = .ok (.if_icmp .ge 21, 3) := by decide +kernel
theorem dL_act_489 : decode cL_act 489 = .ok (.aload 10, 2) := by decide +kernel
theorem dL_act_491 : decode cL_act 491 = .ok (.iload 11, 2) := by decide +kernel
theorem dL_act_493 : decode cL_act 493 = .ok (.aload_n 1, 1) := by decide +kernel
theorem dL_act_494 : decode cL_act 494 = .ok (.getfield 44, 3) := by decide +kernel
theorem dL_act_497 : decode cL_act 497 = .ok (.iload 11, 2) := by decide +kernel
theorem dL_act_499 : decode cL_act 499 = .ok (.aaload, 1) := by decide +kernel
theorem dL_act_500 : decode cL_act 500 = .ok (.aastore, 1) := by decide +kernel
theorem dL_act_501 : decode cL_act 501 = .ok (.iinc 11 1, 3) := by decide +kernel
theorem dL_act_504 : decode cL_act 504 = .ok (.goto (-25), 3) := by decide +kernel
theorem dL_act_507 : decode cL_act 507 = .ok (.aload 10, 2) := by decide +kernel
theorem dL_act_509 : decode cL_act 509 = .ok (.aload_n 1, 1) := by decide +kernel
theorem dL_act_510 : decode cL_act 510 = .ok (.getfield 44, 3) := by decide +kernel
theorem dL_act_513 : decode cL_act 513 = .ok (.arraylength, 1) := by decide +kernel
theorem dL_act_514 : decode cL_act 514 = .ok (.aload 9, 2) := by decide +kernel
theorem dL_act_516 : decode cL_act 516 = .ok (.aastore, 1) := by decide +kernel
theorem dL_act_517 : decode cL_act 517 = .ok (.aload_n 1, 1) := by decide +kernel
theorem dL_act_518 : decode cL_act 518 = .ok (.aload 10, 2) := by decide +kernel
theorem dL_act_520 : decode cL_act 520 = .ok (.putfield 44, 3) := by decide +kernel
theorem dL_act_523 : decode cL_act 523 = .ok (.aload_n 0, 1) := by decide +kernel
theorem dL_act_524 : decode cL_act 524 = .ok (.iload_n 3, 1) := by decide +kernel
theorem dL_act_525 : decode cL_act 525 = .ok (.aload 9, 2) := by decide +kernel
theorem dL_act_527 : decode cL_act 527 = .ok (.iconst 1, 1) := by decide +kernel
theorem dL_act_528 : decode cL_act 528 = .ok (.iaload, 1) := by decide +kernel
theorem dL_act_529 : decode cL_act 529 = .ok (.aload 9, 2) := by decide +kernel
theorem dL_act_531 : decode cL_act 531 = .ok (.iconst 2, 1) := by decide +kernel
theorem dL_act_532 : decode cL_act 532 = .ok (.iaload, 1) := by decide +kernel
theorem dL_act_533 : decode cL_act 533 = .ok (.iload 8, 2) := by decide +kernel
theorem dL_act_535 : decode cL_act 535 = .ok (.iconst 2, 1) := by decide +kernel
theorem dL_act_536 : decode cL_act 536 = .ok (.if_icmp .le 10, 3) := by decide +kernel
theorem dL_act_539 : decode cL_act 539 = .ok (.aload 9, 2) := by decide +kernel
theorem dL_act_541 : decode cL_act 541 = .ok (.iconst 3, 1) := by decide +kernel
theorem dL_act_542 : decode cL_act 542 = .ok (.iaload, 1) := by decide +kernel
theorem dL_act_543 : decode cL_act 543 = .ok (.goto 4, 3) := by decide +kernel
theorem dL_act_546 : decode cL_act 546 = .ok (.iconst 0, 1) := by decide +kernel
theorem dL_act_547 : decode cL_act 547 = .ok (.iload 8, 2) := by decide +kernel
theorem dL_act_549 : decode cL_act 549 = .ok (.iconst 3, 1) := by decide +kernel
theorem dL_act_550 : decode cL_act 550 = .ok (.if_icmp .le 10, 3) := by decide +kernel
theorem dL_act_553 : decode cL_act 553 = .ok (.aload 9, 2) := by decide +kernel
theorem dL_act_555 : decode cL_act 555 = .ok (.iconst 4, 1) := by decide +kernel
theorem dL_act_556 : decode cL_act 556 = .ok (.iaload, 1) := by decide +kernel
theorem dL_act_557 : decode cL_act 557 = .ok (.goto 4, 3) := by decide +kernel
theorem dL_act_560 : decode cL_act 560 = .ok (.iconst 0, 1) := by decide +kernel
theorem dL_act_561 : decode cL_act 561 = .ok (.invokevirtual 53, 3) := by decide +kernel
theorem dL_act_564 : decode cL_act 564 = .ok (.aload 10, 2) := by decide +kernel
theorem dL_act_566 : decode cL_act 566 = .ok (.arraylength, 1) := by decide +kernel
theorem dL_act_567 : decode cL_act 567 = .ok (.iconst 1, 1) := by decide +kernel
theorem dL_act_568 : decode cL_act 568 = .ok (.isub, 1) := by decide +kernel
theorem dL_act_569 : decode cL_act 569 = .ok (.if_icmp .ne 7, 3) := by decide +kernel
theorem dL_act_572 : decode cL_act 572 = .ok (.iconst 1, 1) := by decide +kernel
theorem dL_act_573 : decode cL_act 573 = .ok (.goto 4, 3) := by decide +kernel
theorem dL_act_576 : decode cL_act 576 = .ok (.iconst 0, 1) := by decide +kernel
theorem dL_act_577 : decode cL_act 577 = .ok (.ireturn, 1) := by decide +kernel
set_option maxRecDepth 20000 in
theorem ggL_build_X3_init : GoodIn wsL_build wsX3_init := goodIn_r _ [9, 10, 11, 12, 13, 14, 15, 16, 17, 18, 115, 116, 117, 118, 119, 120] (by decide +kernel) (by decide +kernel)
set_option maxRecDepth 20000 in
theorem gL_build_X3_init : GoodIn wsL_build (wsX3_init) := ggL_build_X3_init
set_option maxRecDepth 20000 in
theorem ggL_build_L_cell : GoodIn wsL_build wsL_cell := goodIn_r _ [22, 23] (by decide +kernel) (by decide +kernel)
set_option maxRecDepth 20000 in
theorem gL_build_L_cell : GoodIn wsL_build (va_wsS RL 58 yL_cell wsL_cell) := goodIn_app (goodIn_of _ (by decide +kernel)) ggL_build_L_cell
set_option maxRecDepth 20000 in
theorem ggL_build_L_below : GoodIn wsL_build wsL_below := goodIn_r _ [26, 27] (by decide +kernel) (by decide +kernel)
set_option maxRecDepth 20000 in
theorem gL_build_L_below : GoodIn wsL_build (va_wsS RL 9 yL_below wsL_below) := goodIn_app (goodIn_of _ (by decide +kernel)) ggL_build_L_below
set_option maxRecDepth 20000 in
theorem ggL_build_X2_setWeather : GoodIn wsL_build wsX2_setWeather := goodIn_ca (goodIn_ca (goodIn_r _ [32, 33, 34, 35, 36, 37, 38, 39, 40, 41, 31, 42, 121, 122, 123, 124, 125, 126] (by decide +kernel) (by decide +kernel)) (goodIn_sub (fun _ h => List.mem_cons_of_mem _ (List.mem_append_left _ (List.mem_append_left _ (List.mem_append_right _ h)))) (by decide +kernel))) (goodIn_sub (fun _ h => List.mem_cons_of_mem _ (List.mem_append_left _ (List.mem_append_right _ h))) (by decide +kernel))
set_option maxRecDepth 20000 in
theorem gL_build_X2_setWeather : GoodIn wsL_build (wsV RL 40 RX2 yX2_setWeather wsX2_setWeather) := goodIn_app (goodIn_of _ (by decide +kernel)) ggL_build_X2_setWeather
set_option maxRecDepth 20000 in
theorem ggL_build_X2_draw : GoodIn wsL_build wsX2_draw := goodIn_ca (goodIn_ca (goodIn_r _ [46, 35, 36, 47, 48, 49, 31, 50, 33, 34, 51, 52, 53, 54, 55, 56, 57, 58, 59, 60, 61, 62, 63, 64, 65, 121, 122, 123, 124, 125, 126, 127, 128, 129, 130, 131, 132, 133, 134] (by decide +kernel) (by decide +kernel)) (goodIn_sub (fun _ h => List.mem_cons_of_mem _ (List.mem_append_left _ (List.mem_append_right _ h))) (by decide +kernel))) (goodIn_sub (fun _ h => List.mem_cons_of_mem _ (List.mem_append_left _ (List.mem_append_left _ (List.mem_append_right _ h)))) (by decide +kernel))
set_option maxRecDepth 20000 in
theorem gL_build_X2_draw : GoodIn wsL_build (wsV RL 30 RX2 yX2_draw wsX2_draw) := goodIn_app (goodIn_of _ (by decide +kernel)) ggL_build_X2_draw
set_option maxRecDepth 20000 in
theorem ggL_build_X3_tone : GoodIn wsL_build wsX3_tone := goodIn_r _ [69, 14, 70, 115, 116, 117, 118, 119, 120] (by decide +kernel) (by decide +kernel)
set_option maxRecDepth 20000 in
theorem gL_build_X3_tone : GoodIn wsL_build (wsV RL 26 RX3 yX3_tone wsX3_tone) := goodIn_app (goodIn_of _ (by decide +kernel)) ggL_build_X3_tone
set_option maxRecDepth 20000 in
theorem ggL_build_X2_push : GoodIn wsL_build wsX2_push := goodIn_ca (goodIn_ca (goodIn_ca (goodIn_r _ [74, 35, 36, 75, 76, 47, 77, 48, 49, 31, 50, 33, 34, 78, 79, 80, 81, 82, 83, 54, 84, 64, 60, 61, 62, 63, 59, 56, 57, 65, 121, 122, 123, 124, 125, 126, 127, 128, 129, 130, 131, 132, 133, 134] (by decide +kernel) (by decide +kernel)) (goodIn_sub (fun _ h => List.mem_cons_of_mem _ (List.mem_append_left _ (List.mem_append_right _ h))) (by decide +kernel))) (goodIn_sub (fun _ h => List.mem_cons_of_mem _ (List.mem_append_right _ h)) (by decide +kernel))) (goodIn_sub (fun _ h => List.mem_cons_of_mem _ (List.mem_append_left _ (List.mem_append_left _ (List.mem_append_right _ h)))) (by decide +kernel))
set_option maxRecDepth 20000 in
theorem gL_build_X2_push : GoodIn wsL_build (wsV RL 21 RX2 yX2_push wsX2_push) := goodIn_app (goodIn_of _ (by decide +kernel)) ggL_build_X2_push
theorem dL_build_0 : decode cL_build 0 = .ok (.new 16, 3) := by decide +kernel
theorem dL_build_3 : decode cL_build 3 = .ok (.dup, 1) := by decide +kernel
theorem dL_build_4 : decode cL_build 4 = .ok (.invokespecial 57, 3) := by decide +kernel
theorem dL_build_7 : decode cL_build 7 = .ok (.astore_n 2, 1) := by decide +kernel
theorem dL_build_8 : decode cL_build 8 = .ok (.iconst 0, 1) := by decide +kernel
theorem dL_build_9 : decode cL_build 9 = .ok (.istore_n 3, 1) := by decide +kernel
theorem dL_build_10 : decode cL_build 10 = .ok (.iload_n 3, 1) := by decide +kernel
theorem dL_build_11 : decode cL_build 11 = .ok (.bipush 12, 2) := by decide +kernel
theorem dL_build_13 : decode cL_build 13 = .ok (.if_icmp .ge 203, 3) := by decide +kernel
theorem dL_build_16 : decode cL_build 16 = .ok (.aload_n 2, 1) := by decide +kernel
theorem dL_build_17 : decode cL_build 17 = .ok (.getfield 33, 3) := by decide +kernel
theorem dL_build_20 : decode cL_build 20 = .ok (.iload_n 3, 1) := by decide +kernel
theorem dL_build_21 : decode cL_build 21 = .ok (.aload_n 1, 1) := by decide +kernel
theorem dL_build_22 : decode cL_build 22 = .ok (.iconst 0, 1) := by decide +kernel
theorem dL_build_23 : decode cL_build 23 = .ok (.invokestatic 58, 3) := by decide +kernel
theorem dL_build_26 : decode cL_build 26 = .ok (.iload_n 3, 1) := by decide +kernel
theorem dL_build_27 : decode cL_build 27 = .ok (.ishr, 1) := by decide +kernel
theorem dL_build_28 : decode cL_build 28 = .ok (.aload_n 1, 1) := by decide +kernel
theorem dL_build_29 : decode cL_build 29 = .ok (.iconst 1, 1) := by decide +kernel
theorem dL_build_30 : decode cL_build 30 = .ok (.invokestatic 58, 3) := by decide +kernel
theorem dL_build_33 : decode cL_build 33 = .ok (.iload_n 3, 1) := by decide +kernel
theorem dL_build_34 : decode cL_build 34 = .ok (.ishr, 1) := by decide +kernel
theorem dL_build_35 : decode cL_build 35 = .ok (.iconst 3, 1) := by decide +kernel
theorem dL_build_36 : decode cL_build 36 = .ok (.invokestatic 9, 3) := by decide +kernel
theorem dL_build_39 : decode cL_build 39 = .ok (.ifCond .ne 8, 3) := by decide +kernel
theorem dL_build_42 : decode cL_build 42 = .ok (.bipush 21, 2) := by decide +kernel
theorem dL_build_44 : decode cL_build 44 = .ok (.goto 5, 3) := by decide +kernel
theorem dL_build_47 : decode cL_build 47 = .ok (.bipush 9, 2) := by decide +kernel
theorem dL_build_49 : decode cL_build 49 = .ok (.invokestatic 9, 3) := by decide +kernel
theorem dL_build_52 : decode cL_build 52 = .ok (.iastore, 1) := by decide +kernel
theorem dL_build_53 : decode cL_build 53 = .ok (.aload_n 2, 1) := by decide +kernel
theorem dL_build_54 : decode cL_build 54 = .ok (.getfield 37, 3) := by decide +kernel
theorem dL_build_57 : decode cL_build 57 = .ok (.iload_n 3, 1) := by decide +kernel
theorem dL_build_58 : decode cL_build 58 = .ok (.aload_n 1, 1) := by decide +kernel
theorem dL_build_59 : decode cL_build 59 = .ok (.iconst 2, 1) := by decide +kernel
theorem dL_build_60 : decode cL_build 60 = .ok (.invokestatic 58, 3) := by decide +kernel
theorem dL_build_63 : decode cL_build 63 = .ok (.iload_n 3, 1) := by decide +kernel
theorem dL_build_64 : decode cL_build 64 = .ok (.ishr, 1) := by decide +kernel
theorem dL_build_65 : decode cL_build 65 = .ok (.bipush 10, 2) := by decide +kernel
theorem dL_build_67 : decode cL_build 67 = .ok (.invokestatic 9, 3) := by decide +kernel
theorem dL_build_70 : decode cL_build 70 = .ok (.iastore, 1) := by decide +kernel
theorem dL_build_71 : decode cL_build 71 = .ok (.aload_n 0, 1) := by decide +kernel
theorem dL_build_72 : decode cL_build 72 = .ok (.iload_n 3, 1) := by decide +kernel
theorem dL_build_73 : decode cL_build 73 = .ok (.aload_n 2, 1) := by decide +kernel
theorem dL_build_74 : decode cL_build 74 = .ok (.getfield 33, 3) := by decide +kernel
theorem dL_build_77 : decode cL_build 77 = .ok (.iload_n 3, 1) := by decide +kernel
theorem dL_build_78 : decode cL_build 78 = .ok (.iaload, 1) := by decide +kernel
theorem dL_build_79 : decode cL_build 79 = .ok (.aload_n 2, 1) := by decide +kernel
theorem dL_build_80 : decode cL_build 80 = .ok (.getfield 37, 3) := by decide +kernel
theorem dL_build_83 : decode cL_build 83 = .ok (.iload_n 3, 1) := by decide +kernel
theorem dL_build_84 : decode cL_build 84 = .ok (.iaload, 1) := by decide +kernel
theorem dL_build_85 : decode cL_build 85 = .ok (.invokevirtual 40, 3) := by decide +kernel
theorem dL_build_88 : decode cL_build 88 = .ok (.ifCond .eq 5, 3) := by decide +kernel
theorem dL_build_91 : decode cL_build 91 = .ok (.aconst_null, 1) := by decide +kernel
theorem dL_build_92 : decode cL_build 92 = .ok (.areturn, 1) := by decide +kernel
theorem dL_build_93 : decode cL_build 93 = .ok (.aload_n 1, 1) := by decide +kernel
theorem dL_build_94 : decode cL_build 94 = .ok (.iconst 3, 1) := by decide +kernel
theorem dL_build_95 : decode cL_build 95 = .ok (.iload_n 3, 1) := by decide +kernel
theorem dL_build_96 : decode cL_build 96 = .ok (.iconst 4, 1) := by decide +kernel
theorem dL_build_97 : decode cL_build 97 = .ok (.irem, 1) := by decide +kernel
theorem dL_build_98 : decode cL_build 98 = .ok (.iadd, 1) := by decide +kernel
theorem dL_build_99 : decode cL_build 99 = .ok (.invokestatic 58, 3) := by decide +kernel
theorem dL_build_102 : decode cL_build 102 = .ok (.iload_n 3, 1) := by decide +kernel
theorem dL_build_103 : decode cL_build 103 = .ok (.ishr, 1) := by decide +kernel
theorem dL_build_104 : decode cL_build 104 = .ok (.bipush 19, 2) := by decide +kernel
theorem dL_build_106 : decode cL_build 106 = .ok (.iload_n 3, 1) := by decide +kernel
theorem dL_build_107 : decode cL_build 107 = .ok (.imul, 1) := by decide +kernel
theorem dL_build_108 : decode cL_build 108 = .ok (.iadd, 1) := by decide +kernel
theorem dL_build_109 : decode cL_build 109 = .ok (.istore 4, 2) := by decide +kernel
theorem dL_build_111 : decode cL_build 111 = .ok (.iload 4, 2) := by decide +kernel
theorem dL_build_113 : decode cL_build 113 = .ok (.iconst 3, 1) := by decide +kernel
theorem dL_build_114 : decode cL_build 114 = .ok (.invokestatic 9, 3) := by decide +kernel
theorem dL_build_117 : decode cL_build 117 = .ok (.ifCond .le 47, 3) := by decide +kernel
theorem dL_build_120 : decode cL_build 120 = .ok (.aload_n 2, 1) := by decide +kernel
theorem dL_build_121 : decode cL_build 121 = .ok (.getfield 15, 3) := by decide +kernel
theorem dL_build_124 : decode cL_build 124 = .ok (.iload_n 3, 1) := by decide +kernel
theorem dL_build_125 : decode cL_build 125 = .ok (.aaload, 1) := by decide +kernel
theorem dL_build_126 : decode cL_build 126 = .ok (.iconst 0, 1) := by decide +kernel
theorem dL_build_127 : decode cL_build 127 = .ok (.bipush 100, 2) := by decide +kernel
theorem dL_build_129 : decode cL_build 129 = .ok (.iload 4, 2) := by decide +kernel
theorem dL_build_131 : decode cL_build 131 = .ok (.iconst 5, 1) := by decide +kernel
theorem dL_build_132 : decode cL_build 132 = .ok (.imul, 1) := by decide +kernel
theorem dL_build_133 : decode cL_build 133 = .ok (.sipush 801, 3) := by decide +kernel
theorem dL_build_136 : decode cL_build 136 = .ok (.invokestatic 9, 3) := by decide +kernel
theorem dL_build_139 : decode cL_build 139 = .ok (.iadd, 1) := by decide +kernel
theorem dL_build_140 : decode cL_build 140 = .ok (.iastore, 1) := by decide +kernel
theorem dL_build_141 : decode cL_build 141 = .ok (.aload_n 0, 1) := by decide +kernel
theorem dL_build_142 : decode cL_build 142 = .ok (.iload_n 3, 1) := by decide +kernel
theorem dL_build_143 : decode cL_build 143 = .ok (.aload_n 2, 1) := by decide +kernel
theorem dL_build_144 : decode cL_build 144 = .ok (.getfield 15, 3) := by decide +kernel
theorem dL_build_147 : decode cL_build 147 = .ok (.iload_n 3, 1) := by decide +kernel
theorem dL_build_148 : decode cL_build 148 = .ok (.aaload, 1) := by decide +kernel
theorem dL_build_149 : decode cL_build 149 = .ok (.iconst 0, 1) := by decide +kernel
theorem dL_build_150 : decode cL_build 150 = .ok (.iaload, 1) := by decide +kernel
theorem dL_build_151 : decode cL_build 151 = .ok (.invokevirtual 30, 3) := by decide +kernel
theorem dL_build_154 : decode cL_build 154 = .ok (.aload_n 2, 1) := by decide +kernel
theorem dL_build_155 : decode cL_build 155 = .ok (.iload_n 3, 1) := by decide +kernel
theorem dL_build_156 : decode cL_build 156 = .ok (.invokevirtual 26, 3) := by decide +kernel
theorem dL_build_159 : decode cL_build 159 = .ok (.if_icmp .eq 5, 3) := by decide +kernel
theorem dL_build_162 : decode cL_build 162 = .ok (.aconst_null, 1) := by decide +kernel
theorem dL_build_163 : decode cL_build 163 = .ok (.areturn, 1) := by decide +kernel
theorem dL_build_164 : decode cL_build 164 = .ok (.iload 4, 2) := by decide +kernel
theorem dL_build_166 : decode cL_build 166 = .ok (.iconst 3, 1) := by decide +kernel
theorem dL_build_167 : decode cL_build 167 = .ok (.ishr, 1) := by decide +kernel
theorem dL_build_168 : decode cL_build 168 = .ok (.bipush 21, 2) := by decide +kernel
theorem dL_build_170 : decode cL_build 170 = .ok (.invokestatic 9, 3) := by decide +kernel
theorem dL_build_173 : decode cL_build 173 = .ok (.istore 5, 2) := by decide +kernel
theorem dL_build_175 : decode cL_build 175 = .ok (.iload 5, 2) := by decide +kernel
theorem dL_build_177 : decode cL_build 177 = .ok (.ifCond .ne 6, 3) := by decide +kernel
theorem dL_build_180 : decode cL_build 180 = .ok (.goto 30, 3) := by decide +kernel
theorem dL_build_183 : decode cL_build 183 = .ok (.aload_n 2, 1) := by decide +kernel
theorem dL_build_184 : decode cL_build 184 = .ok (.getfield 15, 3) := by decide +kernel
theorem dL_build_187 : decode cL_build 187 = .ok (.iload_n 3, 1) := by decide +kernel
theorem dL_build_188 : decode cL_build 188 = .ok (.aaload, 1) := by decide +kernel
theorem dL_build_189 : decode cL_build 189 = .ok (.iconst 1, 1) := by decide +kernel
theorem dL_build_190 : decode cL_build 190 = .ok (.iload 5, 2) := by decide +kernel
theorem dL_build_192 : decode cL_build 192 = .ok (.iastore, 1) := by decide +kernel
theorem dL_build_193 : decode cL_build 193 = .ok (.aload_n 0, 1) := by decide +kernel
theorem dL_build_194 : decode cL_build 194 = .ok (.iload_n 3, 1) := by decide +kernel
theorem dL_build_195 : decode cL_build 195 = .ok (.iload 5, 2) := by decide +kernel
theorem dL_build_197 : decode cL_build 197 = .ok (.invokevirtual 21, 3) := by decide +kernel
theorem dL_build_200 : decode cL_build 200 = .ok (.aload_n 2, 1) := by decide +kernel
theorem dL_build_201 : decode cL_build 201 = .ok (.iload_n 3, 1) := by decide +kernel
theorem dL_build_202 : decode cL_build 202 = .ok (.invokevirtual 26, 3) := by decide +kernel
theorem dL_build_205 : decode cL_build 205 = .ok (.if_icmp .eq 5, 3) := by decide +kernel
theorem dL_build_208 : decode cL_build 208 = .ok (.aconst_null, 1) := by decide +kernel
theorem dL_build_209 : decode cL_build 209 = .ok (.areturn, 1) := by decide +kernel
theorem dL_build_210 : decode cL_build 210 = .ok (.iinc 3 1, 3) := by decide +kernel
theorem dL_build_213 : decode cL_build 213 = .ok (.goto (-203), 3) := by decide +kernel
theorem dL_build_216 : decode cL_build 216 = .ok (.iconst 0, 1) := by decide +kernel
theorem dL_build_217 : decode cL_build 217 = .ok (.istore_n 3, 1) := by decide +kernel
theorem dL_build_218 : decode cL_build 218 = .ok (.iload_n 3, 1) := by decide +kernel
theorem dL_build_219 : decode cL_build 219 = .ok (.bipush 6, 2) := by decide +kernel
theorem dL_build_221 : decode cL_build 221 = .ok (.if_icmp .ge 61, 3) := by decide +kernel
theorem dL_build_224 : decode cL_build 224 = .ok (.aload_n 0, 1) := by decide +kernel
theorem dL_build_225 : decode cL_build 225 = .ok (.aload_n 2, 1) := by decide +kernel
theorem dL_build_226 : decode cL_build 226 = .ok (.aload_n 1, 1) := by decide +kernel
theorem dL_build_227 : decode cL_build 227 = .ok (.bipush 7, 2) := by decide +kernel
theorem dL_build_229 : decode cL_build 229 = .ok (.iload_n 3, 1) := by decide +kernel
theorem dL_build_230 : decode cL_build 230 = .ok (.iadd, 1) := by decide +kernel
theorem dL_build_231 : decode cL_build 231 = .ok (.invokestatic 58, 3) := by decide +kernel
theorem dL_build_234 : decode cL_build 234 = .ok (.sipush 255, 3) := by decide +kernel
theorem dL_build_237 : decode cL_build 237 = .ok (.iand, 1) := by decide +kernel
theorem dL_build_238 : decode cL_build 238 = .ok (.sipush 1024, 3) := by decide +kernel
theorem dL_build_241 : decode cL_build 241 = .ok (.iadd, 1) := by decide +kernel
theorem dL_build_242 : decode cL_build 242 = .ok (.aload_n 1, 1) := by decide +kernel
theorem dL_build_243 : decode cL_build 243 = .ok (.bipush 7, 2) := by decide +kernel
theorem dL_build_245 : decode cL_build 245 = .ok (.iload_n 3, 1) := by decide +kernel
theorem dL_build_246 : decode cL_build 246 = .ok (.iadd, 1) := by decide +kernel
theorem dL_build_247 : decode cL_build 247 = .ok (.invokestatic 58, 3) := by decide +kernel
theorem dL_build_250 : decode cL_build 250 = .ok (.bipush 8, 2) := by decide +kernel
theorem dL_build_252 : decode cL_build 252 = .ok (.ishr, 1) := by decide +kernel
theorem dL_build_253 : decode cL_build 253 = .ok (.iconst 2, 1) := by decide +kernel
theorem dL_build_254 : decode cL_build 254 = .ok (.invokestatic 9, 3) := by decide +kernel
theorem dL_build_257 : decode cL_build 257 = .ok (.ifCond .ne 9, 3) := by decide +kernel
theorem dL_build_260 : decode cL_build 260 = .ok (.sipush 256, 3) := by decide +kernel
theorem dL_build_263 : decode cL_build 263 = .ok (.goto 4, 3) := by decide +kernel
theorem dL_build_266 : decode cL_build 266 = .ok (.iconst 0, 1) := by decide +kernel
theorem dL_build_267 : decode cL_build 267 = .ok (.iadd, 1) := by decide +kernel
theorem dL_build_268 : decode cL_build 268 = .ok (.invokestatic 62, 3) := by decide +kernel
theorem dL_build_271 : decode cL_build 271 = .ok (.ifCond .ne 5, 3) := by decide +kernel
theorem dL_build_274 : decode cL_build 274 = .ok (.aconst_null, 1) := by decide +kernel
theorem dL_build_275 : decode cL_build 275 = .ok (.areturn, 1) := by decide +kernel
theorem dL_build_276 : decode cL_build 276 = .ok (.iinc 3 1, 3) := by decide +kernel
theorem dL_build_279 : decode cL_build 279 = .ok (.goto (-61), 3) := by decide +kernel
theorem dL_build_282 : decode cL_build 282 = .ok (.aload_n 2, 1) := by decide +kernel
theorem dL_build_283 : decode cL_build 283 = .ok (.areturn, 1) := by decide +kernel
