theorem dX8_init_148 : decode cX8_init 148 = .ok (.aload_n 0, 1) := by decide +kernel
theorem dX8_init_149 : decode cX8_init 149 = .ok (.sipush 720, 3) := by decide +kernel
theorem dX8_init_152 : decode cX8_init 152 = .ok (.newarray .int, 2) := by decide +kernel
theorem dX8_init_154 : decode cX8_init 154 = .ok (.putfield 64, 3) := by decide +kernel
theorem dX8_init_157 : decode cX8_init 157 = .ok (.aload_n 0, 1) := by decide +kernel
theorem dX8_init_158 : decode cX8_init 158 = .ok (.sipush 720, 3) := by decide +kernel
theorem dX8_init_161 : decode cX8_init 161 = .ok (.newarray .int, 2) := by decide +kernel
theorem dX8_init_163 : decode cX8_init 163 = .ok (.putfield 67, 3) := by decide +kernel
theorem dX8_init_166 : decode cX8_init 166 = .ok (.aload_n 0, 1) := by decide +kernel
theorem dX8_init_167 : decode cX8_init 167 = .ok (.bipush 120, 2) := by decide +kernel
theorem dX8_init_169 : decode cX8_init 169 = .ok (.newarray .boolean, 2) := by decide +kernel
theorem dX8_init_171 : decode cX8_init 171 = .ok (.putfield 70, 3) := by decide +kernel
theorem dX8_init_174 : decode cX8_init 174 = .ok (.aload_n 0, 1) := by decide +kernel
theorem dX8_init_175 : decode cX8_init 175 = .ok (.sipush 300, 3) := by decide +kernel
theorem dX8_init_178 : decode cX8_init 178 = .ok (.newarray .int, 2) := by decide +kernel
theorem dX8_init_180 : decode cX8_init 180 = .ok (.putfield 74, 3) := by decide +kernel
theorem dX8_init_183 : decode cX8_init 183 = .ok (.aload_n 0, 1) := by decide +kernel
theorem dX8_init_184 : decode cX8_init 184 = .ok (.sipush 300, 3) := by decide +kernel
theorem dX8_init_187 : decode cX8_init 187 = .ok (.newarray .int, 2) := by decide +kernel
theorem dX8_init_189 : decode cX8_init 189 = .ok (.putfield 77, 3) := by decide +kernel
theorem dX8_init_192 : decode cX8_init 192 = .ok (.aload_n 0, 1) := by decide +kernel
theorem dX8_init_193 : decode cX8_init 193 = .ok (.sipush 300, 3) := by decide +kernel
theorem dX8_init_196 : decode cX8_init 196 = .ok (.newarray .int, 2) := by decide +kernel
theorem dX8_init_198 : decode cX8_init 198 = .ok (.putfield 80, 3) := by decide +kernel
theorem dX8_init_201 : decode cX8_init 201 = .ok (.aload_n 0, 1) := by decide +kernel
theorem dX8_init_202 : decode cX8_init 202 = .ok (.sipush 300, 3) := by decide +kernel
theorem dX8_init_205 : decode cX8_init 205 = .ok (.newarray .int, 2) := by decide +kernel
theorem dX8_init_207 : decode cX8_init 207 = .ok (.putfield 83, 3) := by decide +kernel
theorem dX8_init_210 : decode cX8_init 210 = .ok (.aload_n 0, 1) := by decide +kernel
theorem dX8_init_211 : decode cX8_init 211 = .ok (.sipush 300, 3) := by decide +kernel
theorem dX8_init_214 : decode cX8_init 214 = .ok (.newarray .int, 2) := by decide +kernel
theorem dX8_init_216 : decode cX8_init 216 = .ok (.putfield 86, 3) := by decide +kernel
theorem dX8_init_219 : decode cX8_init 219 = .ok (.aload_n 0, 1) := by decide +kernel
theorem dX8_init_220 : decode cX8_init 220 = .ok (.sipush 1800, 3) := by decide +kernel
theorem dX8_init_223 : decode cX8_init 223 = .ok (.newarray .int, 2) := by decide +kernel
theorem dX8_init_225 : decode cX8_init 225 = .ok (.putfield 89, 3) := by decide +kernel
theorem dX8_init_228 : decode cX8_init 228 = .ok (.aload_n 0, 1) := by decide +kernel
theorem dX8_init_229 : decode cX8_init 229 = .ok (.bipush 64, 2) := by decide +kernel
theorem dX8_init_231 : decode cX8_init 231 = .ok (.newarray .int, 2) := by decide +kernel
theorem dX8_init_233 : decode cX8_init 233 = .ok (.putfield 92, 3) := by decide +kernel
theorem dX8_init_236 : decode cX8_init 236 = .ok (.aload_n 0, 1) := by decide +kernel
theorem dX8_init_237 : decode cX8_init 237 = .ok (.bipush 126, 2) := by decide +kernel
theorem dX8_init_239 : decode cX8_init 239 = .ok (.newarray .int, 2) := by decide +kernel
theorem dX8_init_241 : decode cX8_init 241 = .ok (.putfield 95, 3) := by decide +kernel
theorem dX8_init_244 : decode cX8_init 244 = .ok (.aload_n 0, 1) := by decide +kernel
theorem dX8_init_245 : decode cX8_init 245 = .ok (.bipush 36, 2) := by decide +kernel
theorem dX8_init_247 : decode cX8_init 247 = .ok (.newarray .int, 2) := by decide +kernel
theorem dX8_init_249 : decode cX8_init 249 = .ok (.putfield 98, 3) := by decide +kernel
theorem dX8_init_252 : decode cX8_init 252 = .ok (.aload_n 0, 1) := by decide +kernel
theorem dX8_init_253 : decode cX8_init 253 = .ok (.bipush 8, 2) := by decide +kernel
theorem dX8_init_255 : decode cX8_init 255 = .ok (.newarray .int, 2) := by decide +kernel
theorem dX8_init_257 : decode cX8_init 257 = .ok (.putfield 101, 3) := by decide +kernel
theorem dX8_init_260 : decode cX8_init 260 = .ok (.iconst 0, 1) := by decide +kernel
theorem dX8_init_261 : decode cX8_init 261 = .ok (.istore_n 1, 1) := by decide +kernel
theorem dX8_init_262 : decode cX8_init 262 = .ok (.iload_n 1, 1) := by decide +kernel
theorem dX8_init_263 : decode cX8_init 263 = .ok (.bipush 64, 2) := by decide +kernel
theorem dX8_init_265 : decode cX8_init 265 = .ok (.if_icmp .ge 16, 3) := by decide +kernel
theorem dX8_init_268 : decode cX8_init 268 = .ok (.aload_n 0, 1) := by decide +kernel
theorem dX8_init_269 : decode cX8_init 269 = .ok (.getfield 92, 3) := by decide +kernel
theorem dX8_init_272 : decode cX8_init 272 = .ok (.iload_n 1, 1) := by decide +kernel
theorem dX8_init_273 : decode cX8_init 273 = .ok (.iconst (-1), 1) := by decide +kernel
theorem dX8_init_274 : decode cX8_init 274 = .ok (.iastore, 1) := by decide +kernel
theorem dX8_init_275 : decode cX8_init 275 = .ok (.iinc 1 1, 3) := by decide +kernel
theorem dX8_init_278 : decode cX8_init 278 = .ok (.goto (-16), 3) := by decide +kernel
theorem dX8_init_281 : decode cX8_init 281 = .ok (.iconst 0, 1) := by decide +kernel
theorem dX8_init_282 : decode cX8_init 282 = .ok (.istore_n 1, 1) := by decide +kernel
theorem dX8_init_283 : decode cX8_init 283 = .ok (.iload_n 1, 1) := by decide +kernel
theorem dX8_init_284 : decode cX8_init 284 = .ok (.bipush 48, 2) := by decide +kernel
theorem dX8_init_286 : decode cX8_init 286 = .ok (.if_icmp .ge 16, 3) := by decide +kernel
theorem dX8_init_289 : decode cX8_init 289 = .ok (.aload_n 0, 1) := by decide +kernel
theorem dX8_init_290 : decode cX8_init 290 = .ok (.getfield 13, 3) := by decide +kernel
theorem dX8_init_293 : decode cX8_init 293 = .ok (.iload_n 1, 1) := by decide +kernel
theorem dX8_init_294 : decode cX8_init 294 = .ok (.iconst 1, 1) := by decide +kernel
theorem dX8_init_295 : decode cX8_init 295 = .ok (.iastore, 1) := by decide +kernel
theorem dX8_init_296 : decode cX8_init 296 = .ok (.iinc 1 1, 3) := by decide +kernel
theorem dX8_init_299 : decode cX8_init 299 = .ok (.goto (-16), 3) := by decide +kernel
theorem dX8_init_302 : decode cX8_init 302 = .ok (.return_, 1) := by decide +kernel
theorem dX8_in_0 : decode cX8_in 0 = .ok (.iload_n 0, 1) := by decide +kernel
theorem dX8_in_1 : decode cX8_in 1 = .ok (.iload_n 1, 1) := by decide +kernel
theorem dX8_in_2 : decode cX8_in 2 = .ok (.if_icmp .lt 12, 3) := by decide +kernel
theorem dX8_in_5 : decode cX8_in 5 = .ok (.iload_n 0, 1) := by decide +kernel
theorem dX8_in_6 : decode cX8_in 6 = .ok (.iload_n 2, 1) := by decide +kernel
theorem dX8_in_7 : decode cX8_in 7 = .ok (.if_icmp .gt 7, 3) := by decide +kernel
theorem dX8_in_10 : decode cX8_in 10 = .ok (.iconst 1, 1) := by decide +kernel
theorem dX8_in_11 : decode cX8_in 11 = .ok (.goto 4, 3) := by decide +kernel
theorem dX8_in_14 : decode cX8_in 14 = .ok (.iconst 0, 1) := by decide +kernel
theorem dX8_in_15 : decode cX8_in 15 = .ok (.ireturn, 1) := by decide +kernel
set_option maxRecDepth 20000 in
set_option maxRecDepth 100000 in
theorem ggX8_isPost_X8_in : GoodIn wsX8_isPost wsX8_in := goodIn_r _ [5] rfl (by decide +kernel)
set_option maxRecDepth 20000 in
theorem gX8_isPost_X8_in : GoodIn wsX8_isPost (va_wsS RX8 108 yX8_in wsX8_in) := goodIn_app (goodIn_of _ (by decide +kernel)) ggX8_isPost_X8_in
theorem dX8_isPost_0 : decode cX8_isPost 0 = .ok (.iload_n 1, 1) := by decide +kernel
theorem dX8_isPost_1 : decode cX8_isPost 1 = .ok (.iconst 0, 1) := by decide +kernel
theorem dX8_isPost_2 : decode cX8_isPost 2 = .ok (.aload_n 0, 1) := by decide +kernel
theorem dX8_isPost_3 : decode cX8_isPost 3 = .ok (.getfield 104, 3) := by decide +kernel
theorem dX8_isPost_6 : decode cX8_isPost 6 = .ok (.iconst 1, 1) := by decide +kernel
theorem dX8_isPost_7 : decode cX8_isPost 7 = .ok (.isub, 1) := by decide +kernel
theorem dX8_isPost_8 : decode cX8_isPost 8 = .ok (.invokestatic 108, 3) := by decide +kernel
theorem dX8_isPost_11 : decode cX8_isPost 11 = .ok (.ireturn, 1) := by decide +kernel
set_option maxRecDepth 20000 in
set_option maxRecDepth 100000 in
theorem ggX8_isWare_X8_in : GoodIn wsX8_isWare wsX8_in := goodIn_r _ [4] rfl (by decide +kernel)
set_option maxRecDepth 20000 in
theorem gX8_isWare_X8_in : GoodIn wsX8_isWare (va_wsS RX8 108 yX8_in wsX8_in) := goodIn_app (goodIn_of _ (by decide +kernel)) ggX8_isWare_X8_in
theorem dX8_isWare_0 : decode cX8_isWare 0 = .ok (.iload_n 0, 1) := by decide +kernel
theorem dX8_isWare_1 : decode cX8_isWare 1 = .ok (.iconst 0, 1) := by decide +kernel
theorem dX8_isWare_2 : decode cX8_isWare 2 = .ok (.iconst 5, 1) := by decide +kernel
theorem dX8_isWare_3 : decode cX8_isWare 3 = .ok (.invokestatic 108, 3) := by decide +kernel
theorem dX8_isWare_6 : decode cX8_isWare 6 = .ok (.ireturn, 1) := by decide +kernel
set_option maxRecDepth 20000 in
set_option maxRecDepth 100000 in
theorem ggX8_isCanoe_X8_in : GoodIn wsX8_isCanoe wsX8_in := goodIn_r _ [5] rfl (by decide +kernel)
set_option maxRecDepth 20000 in
theorem gX8_isCanoe_X8_in : GoodIn wsX8_isCanoe (va_wsS RX8 108 yX8_in wsX8_in) := goodIn_app (goodIn_of _ (by decide +kernel)) ggX8_isCanoe_X8_in
theorem dX8_isCanoe_0 : decode cX8_isCanoe 0 = .ok (.iload_n 1, 1) := by decide +kernel
theorem dX8_isCanoe_1 : decode cX8_isCanoe 1 = .ok (.iconst 0, 1) := by decide +kernel
theorem dX8_isCanoe_2 : decode cX8_isCanoe 2 = .ok (.aload_n 0, 1) := by decide +kernel
theorem dX8_isCanoe_3 : decode cX8_isCanoe 3 = .ok (.getfield 112, 3) := by decide +kernel
theorem dX8_isCanoe_6 : decode cX8_isCanoe 6 = .ok (.iconst 1, 1) := by decide +kernel
theorem dX8_isCanoe_7 : decode cX8_isCanoe 7 = .ok (.isub, 1) := by decide +kernel
theorem dX8_isCanoe_8 : decode cX8_isCanoe 8 = .ok (.invokestatic 108, 3) := by decide +kernel
theorem dX8_isCanoe_11 : decode cX8_isCanoe 11 = .ok (.ireturn, 1) := by decide +kernel
theorem dX8_post_0 : decode cX8_post 0 = .ok (.aload_n 0, 1) := by decide +kernel
theorem dX8_post_1 : decode cX8_post 1 = .ok (.getfield 104, 3) := by decide +kernel
theorem dX8_post_4 : decode cX8_post 4 = .ok (.bipush 8, 2) := by decide +kernel
theorem dX8_post_6 : decode cX8_post 6 = .ok (.if_icmp .ne 5, 3) := by decide +kernel
theorem dX8_post_9 : decode cX8_post 9 = .ok (.iconst (-1), 1) := by decide +kernel
theorem dX8_post_10 : decode cX8_post 10 = .ok (.ireturn, 1) := by decide +kernel
theorem dX8_post_11 : decode cX8_post 11 = .ok (.aload_n 0, 1) := by decide +kernel
theorem dX8_post_12 : decode cX8_post 12 = .ok (.dup, 1) := by decide +kernel
theorem dX8_post_13 : decode cX8_post 13 = .ok (.getfield 104, 3) := by decide +kernel
theorem dX8_post_16 : decode cX8_post 16 = .ok (.iconst 1, 1) := by decide +kernel
theorem dX8_post_17 : decode cX8_post 17 = .ok (.iadd, 1) := by decide +kernel
theorem dX8_post_18 : decode cX8_post 18 = .ok (.putfield 104, 3) := by decide +kernel
theorem dX8_post_21 : decode cX8_post 21 = .ok (.aload_n 0, 1) := by decide +kernel
theorem dX8_post_22 : decode cX8_post 22 = .ok (.getfield 104, 3) := by decide +kernel
theorem dX8_post_25 : decode cX8_post 25 = .ok (.iconst 1, 1) := by decide +kernel
theorem dX8_post_26 : decode cX8_post 26 = .ok (.isub, 1) := by decide +kernel
theorem dX8_post_27 : decode cX8_post 27 = .ok (.ireturn, 1) := by decide +kernel
theorem dX8_between_0 : decode cX8_between 0 = .ok (.iconst 0, 1) := by decide +kernel
theorem dX8_between_1 : decode cX8_between 1 = .ok (.istore_n 3, 1) := by decide +kernel
theorem dX8_between_2 : decode cX8_between 2 = .ok (.iload_n 3, 1) := by decide +kernel
theorem dX8_between_3 : decode cX8_between 3 = .ok (.aload_n 0, 1) := by decide +kernel
theorem dX8_between_4 : decode cX8_between 4 = .ok (.getfield 115, 3) := by decide +kernel
theorem dX8_between_7 : decode cX8_between 7 = .ok (.if_icmp .ge 51, 3) := by decide +kernel
theorem dX8_between_10 : decode cX8_between 10 = .ok (.aload_n 0, 1) := by decide +kernel
theorem dX8_between_11 : decode cX8_between 11 = .ok (.getfield 19, 3) := by decide +kernel
theorem dX8_between_14 : decode cX8_between 14 = .ok (.iload_n 3, 1) := by decide +kernel
theorem dX8_between_15 : decode cX8_between 15 = .ok (.iaload, 1) := by decide +kernel
theorem dX8_between_16 : decode cX8_between 16 = .ok (.iload_n 1, 1) := by decide +kernel
theorem dX8_between_17 : decode cX8_between 17 = .ok (.if_icmp .ne 13, 3) := by decide +kernel
theorem dX8_between_20 : decode cX8_between 20 = .ok (.aload_n 0, 1) := by decide +kernel
theorem dX8_between_21 : decode cX8_between 21 = .ok (.getfield 22, 3) := by decide +kernel
theorem dX8_between_24 : decode cX8_between 24 = .ok (.iload_n 3, 1) := by decide +kernel
theorem dX8_between_25 : decode cX8_between 25 = .ok (.iaload, 1) := by decide +kernel
theorem dX8_between_26 : decode cX8_between 26 = .ok (.iload_n 2, 1) := by decide +kernel
theorem dX8_between_27 : decode cX8_between 27 = .ok (.if_icmp .eq 23, 3) := by decide +kernel
theorem dX8_between_30 : decode cX8_between 30 = .ok (.aload_n 0, 1) := by decide +kernel
theorem dX8_between_31 : decode cX8_between 31 = .ok (.getfield 19, 3) := by decide +kernel
theorem dX8_between_34 : decode cX8_between 34 = .ok (.iload_n 3, 1) := by decide +kernel
theorem dX8_between_35 : decode cX8_between 35 = .ok (.iaload, 1) := by decide +kernel
theorem dX8_between_36 : decode cX8_between 36 = .ok (.iload_n 2, 1) := by decide +kernel
theorem dX8_between_37 : decode cX8_between 37 = .ok (.if_icmp .ne 15, 3) := by decide +kernel
theorem dX8_between_40 : decode cX8_between 40 = .ok (.aload_n 0, 1) := by decide +kernel
theorem dX8_between_41 : decode cX8_between 41 = .ok (.getfield 22, 3) := by decide +kernel
theorem dX8_between_44 : decode cX8_between 44 = .ok (.iload_n 3, 1) := by decide +kernel
theorem dX8_between_45 : decode cX8_between 45 = .ok (.iaload, 1) := by decide +kernel
theorem dX8_between_46 : decode cX8_between 46 = .ok (.iload_n 1, 1) := by decide +kernel
theorem dX8_between_47 : decode cX8_between 47 = .ok (.if_icmp .ne 5, 3) := by decide +kernel
theorem dX8_between_50 : decode cX8_between 50 = .ok (.iload_n 3, 1) := by decide +kernel
theorem dX8_between_51 : decode cX8_between 51 = .ok (.ireturn, 1) := by decide +kernel
theorem dX8_between_52 : decode cX8_between 52 = .ok (.iinc 3 1, 3) := by decide +kernel
theorem dX8_between_55 : decode cX8_between 55 = .ok (.goto (-53), 3) := by decide +kernel
theorem dX8_between_58 : decode cX8_between 58 = .ok (.iconst (-1), 1) := by decide +kernel
theorem dX8_between_59 : decode cX8_between 59 = .ok (.ireturn, 1) := by decide +kernel
set_option maxRecDepth 20000 in
set_option maxRecDepth 100000 in
theorem ggX8_way_X8_in : GoodIn wsX8_way wsX8_in := goodIn_r _ [12] rfl (by decide +kernel)
set_option maxRecDepth 20000 in
theorem gX8_way_X8_in : GoodIn wsX8_way (va_wsS RX8 108 yX8_in wsX8_in) := goodIn_app (goodIn_of _ (by decide +kernel)) ggX8_way_X8_in
set_option maxRecDepth 20000 in
set_option maxRecDepth 100000 in
theorem ggX8_way_X8_isPost : GoodIn wsX8_way wsX8_isPost := goodIn_r _ [16, 17, 9, 10, 11, 12, 22, 23, 24, 25, 26, 27, 28, 29, 30, 31, 32, 33, 34, 35, 36, 37, 38, 39, 40, 41, 42, 43, 44, 45, 46, 47, 48, 49, 50, 51, 52, 53, 54, 55, 56, 57, 58] rfl (by decide +kernel)
set_option maxRecDepth 20000 in
theorem gX8_way_X8_isPost : GoodIn wsX8_way (wsV RX8 119 RX8 yX8_isPost wsX8_isPost) := goodIn_app (goodIn_of _ (by decide +kernel)) ggX8_way_X8_isPost
set_option maxRecDepth 20000 in
set_option maxRecDepth 100000 in
theorem ggX8_way_X8_between : GoodIn wsX8_way wsX8_between := goodIn_r _ [21, 2, 3, 4, 22, 23, 24, 25, 26, 27, 28, 29, 30, 31, 32, 33, 34, 35, 36, 37, 38, 39, 40, 41, 42, 43, 44, 45, 46, 47, 48, 49, 50, 51, 52, 53, 54, 55, 56, 57, 58] rfl (by decide +kernel)
set_option maxRecDepth 20000 in
theorem gX8_way_X8_between : GoodIn wsX8_way (wsV RX8 123 RX8 yX8_between wsX8_between) := goodIn_app (goodIn_of _ (by decide +kernel)) ggX8_way_X8_between
theorem dX8_way_0 : decode cX8_way 0 = .ok (.iload_n 3, 1) := by decide +kernel
theorem dX8_way_1 : decode cX8_way 1 = .ok (.ldc 118, 2) := by decide +kernel
theorem dX8_way_3 : decode cX8_way 3 = .ok (.idiv, 1) := by decide +kernel
theorem dX8_way_4 : decode cX8_way 4 = .ok (.istore 5, 2) := by decide +kernel
theorem dX8_way_6 : decode cX8_way 6 = .ok (.iload_n 3, 1) := by decide +kernel
theorem dX8_way_7 : decode cX8_way 7 = .ok (.sipush 1000, 3) := by decide +kernel
theorem dX8_way_10 : decode cX8_way 10 = .ok (.idiv, 1) := by decide +kernel
theorem dX8_way_11 : decode cX8_way 11 = .ok (.sipush 1000, 3) := by decide +kernel
theorem dX8_way_14 : decode cX8_way 14 = .ok (.irem, 1) := by decide +kernel
theorem dX8_way_15 : decode cX8_way 15 = .ok (.istore 6, 2) := by decide +kernel
theorem dX8_way_17 : decode cX8_way 17 = .ok (.iload_n 3, 1) := by decide +kernel
theorem dX8_way_18 : decode cX8_way 18 = .ok (.sipush 1000, 3) := by decide +kernel
theorem dX8_way_21 : decode cX8_way 21 = .ok (.irem, 1) := by decide +kernel
theorem dX8_way_22 : decode cX8_way 22 = .ok (.istore 7, 2) := by decide +kernel
theorem dX8_way_24 : decode cX8_way 24 = .ok (.iload_n 3, 1) := by decide +kernel
theorem dX8_way_25 : decode cX8_way 25 = .ok (.ifCond .lt 39, 3) := by decide +kernel
theorem dX8_way_28 : decode cX8_way 28 = .ok (.iload 5, 2) := by decide +kernel
theorem dX8_way_30 : decode cX8_way 30 = .ok (.iconst 1, 1) := by decide +kernel
theorem dX8_way_31 : decode cX8_way 31 = .ok (.bipush 40, 2) := by decide +kernel
theorem dX8_way_33 : decode cX8_way 33 = .ok (.invokestatic 108, 3) := by decide +kernel
theorem dX8_way_36 : decode cX8_way 36 = .ok (.ifCond .eq 28, 3) := by decide +kernel
theorem dX8_way_39 : decode cX8_way 39 = .ok (.iload 6, 2) := by decide +kernel
theorem dX8_way_41 : decode cX8_way 41 = .ok (.iconst 0, 1) := by decide +kernel
theorem dX8_way_42 : decode cX8_way 42 = .ok (.sipush 364, 3) := by decide +kernel
theorem dX8_way_45 : decode cX8_way 45 = .ok (.invokestatic 108, 3) := by decide +kernel
theorem dX8_way_48 : decode cX8_way 48 = .ok (.ifCond .eq 16, 3) := by decide +kernel
theorem dX8_way_51 : decode cX8_way 51 = .ok (.iload 7, 2) := by decide +kernel
theorem dX8_way_53 : decode cX8_way 53 = .ok (.iload 6, 2) := by decide +kernel
theorem dX8_way_55 : decode cX8_way 55 = .ok (.sipush 364, 3) := by decide +kernel
theorem dX8_way_58 : decode cX8_way 58 = .ok (.invokestatic 108, 3) := by decide +kernel
theorem dX8_way_61 : decode cX8_way 61 = .ok (.ifCond .ne 5, 3) := by decide +kernel
theorem dX8_way_64 : decode cX8_way 64 = .ok (.iconst (-1), 1) := by decide +kernel
theorem dX8_way_65 : decode cX8_way 65 = .ok (.ireturn, 1) := by decide +kernel
theorem dX8_way_66 : decode cX8_way 66 = .ok (.aload_n 0, 1) := by decide +kernel
theorem dX8_way_67 : decode cX8_way 67 = .ok (.iload_n 1, 1) := by decide +kernel
theorem dX8_way_68 : decode cX8_way 68 = .ok (.invokevirtual 119, 3) := by decide +kernel
theorem dX8_way_71 : decode cX8_way 71 = .ok (.ifCond .eq 47, 3) := by decide +kernel
theorem dX8_way_74 : decode cX8_way 74 = .ok (.aload_n 0, 1) := by decide +kernel
theorem dX8_way_75 : decode cX8_way 75 = .ok (.iload_n 2, 1) := by decide +kernel
theorem dX8_way_76 : decode cX8_way 76 = .ok (.invokevirtual 119, 3) := by decide +kernel
theorem dX8_way_79 : decode cX8_way 79 = .ok (.ifCond .eq 39, 3) := by decide +kernel
theorem dX8_way_82 : decode cX8_way 82 = .ok (.iload_n 1, 1) := by decide +kernel
theorem dX8_way_83 : decode cX8_way 83 = .ok (.iload_n 2, 1) := by decide +kernel
theorem dX8_way_84 : decode cX8_way 84 = .ok (.if_icmp .eq 34, 3) := by decide +kernel
theorem dX8_way_87 : decode cX8_way 87 = .ok (.aload_n 0, 1) := by decide +kernel
theorem dX8_way_88 : decode cX8_way 88 = .ok (.iload_n 1, 1) := by decide +kernel
theorem dX8_way_89 : decode cX8_way 89 = .ok (.iload_n 2, 1) := by decide +kernel
theorem dX8_way_90 : decode cX8_way 90 = .ok (.invokevirtual 123, 3) := by decide +kernel
theorem dX8_way_93 : decode cX8_way 93 = .ok (.iconst (-1), 1) := by decide +kernel
theorem dX8_way_94 : decode cX8_way 94 = .ok (.if_icmp .ne 24, 3) := by decide +kernel
theorem dX8_way_97 : decode cX8_way 97 = .ok (.iload 4, 2) := by decide +kernel
theorem dX8_way_99 : decode cX8_way 99 = .ok (.iconst 1, 1) := by decide +kernel
theorem dX8_way_100 : decode cX8_way 100 = .ok (.sipush 500, 3) := by decide +kernel
theorem dX8_way_103 : decode cX8_way 103 = .ok (.invokestatic 108, 3) := by decide +kernel
theorem dX8_way_106 : decode cX8_way 106 = .ok (.ifCond .eq 12, 3) := by decide +kernel
theorem dX8_way_109 : decode cX8_way 109 = .ok (.aload_n 0, 1) := by decide +kernel
theorem dX8_way_110 : decode cX8_way 110 = .ok (.getfield 115, 3) := by decide +kernel
theorem dX8_way_113 : decode cX8_way 113 = .ok (.bipush 12, 2) := by decide +kernel
theorem dX8_way_115 : decode cX8_way 115 = .ok (.if_icmp .ne 5, 3) := by decide +kernel
theorem dX8_way_118 : decode cX8_way 118 = .ok (.iconst (-1), 1) := by decide +kernel
theorem dX8_way_119 : decode cX8_way 119 = .ok (.ireturn, 1) := by decide +kernel
theorem dX8_way_120 : decode cX8_way 120 = .ok (.aload_n 0, 1) := by decide +kernel
theorem dX8_way_121 : decode cX8_way 121 = .ok (.getfield 19, 3) := by decide +kernel
theorem dX8_way_124 : decode cX8_way 124 = .ok (.aload_n 0, 1) := by decide +kernel
theorem dX8_way_125 : decode cX8_way 125 = .ok (.getfield 115, 3) := by decide +kernel
theorem dX8_way_128 : decode cX8_way 128 = .ok (.iload_n 1, 1) := by decide +kernel
theorem dX8_way_129 : decode cX8_way 129 = .ok (.iastore, 1) := by decide +kernel
theorem dX8_way_130 : decode cX8_way 130 = .ok (.aload_n 0, 1) := by decide +kernel
theorem dX8_way_131 : decode cX8_way 131 = .ok (.getfield 22, 3) := by decide +kernel
theorem dX8_way_134 : decode cX8_way 134 = .ok (.aload_n 0, 1) := by decide +kernel
theorem dX8_way_135 : decode cX8_way 135 = .ok (.getfield 115, 3) := by decide +kernel
theorem dX8_way_138 : decode cX8_way 138 = .ok (.iload_n 2, 1) := by decide +kernel
theorem dX8_way_139 : decode cX8_way 139 = .ok (.iastore, 1) := by decide +kernel
theorem dX8_way_140 : decode cX8_way 140 = .ok (.aload_n 0, 1) := by decide +kernel
theorem dX8_way_141 : decode cX8_way 141 = .ok (.getfield 25, 3) := by decide +kernel
theorem dX8_way_144 : decode cX8_way 144 = .ok (.aload_n 0, 1) := by decide +kernel
theorem dX8_way_145 : decode cX8_way 145 = .ok (.getfield 115, 3) := by decide +kernel
theorem dX8_way_148 : decode cX8_way 148 = .ok (.iload 5, 2) := by decide +kernel
theorem dX8_way_150 : decode cX8_way 150 = .ok (.iastore, 1) := by decide +kernel
theorem dX8_way_151 : decode cX8_way 151 = .ok (.aload_n 0, 1) := by decide +kernel
theorem dX8_way_152 : decode cX8_way 152 = .ok (.getfield 28, 3) := by decide +kernel
theorem dX8_way_155 : decode cX8_way 155 = .ok (.aload_n 0, 1) := by decide +kernel
theorem dX8_way_156 : decode cX8_way 156 = .ok (.getfield 115, 3) := by decide +kernel
theorem dX8_way_159 : decode cX8_way 159 = .ok (.iload 6, 2) := by decide +kernel
theorem dX8_way_161 : decode cX8_way 161 = .ok (.iastore, 1) := by decide +kernel
theorem dX8_way_162 : decode cX8_way 162 = .ok (.aload_n 0, 1) := by decide +kernel
theorem dX8_way_163 : decode cX8_way 163 = .ok (.getfield 31, 3) := by decide +kernel
theorem dX8_way_166 : decode cX8_way 166 = .ok (.aload_n 0, 1) := by decide +kernel
theorem dX8_way_167 : decode cX8_way 167 = .ok (.getfield 115, 3) := by decide +kernel
theorem dX8_way_170 : decode cX8_way 170 = .ok (.iload 7, 2) := by decide +kernel
theorem dX8_way_172 : decode cX8_way 172 = .ok (.iastore, 1) := by decide +kernel
theorem dX8_way_173 : decode cX8_way 173 = .ok (.aload_n 0, 1) := by decide +kernel
theorem dX8_way_174 : decode cX8_way 174 = .ok (.getfield 34, 3) := by decide +kernel
theorem dX8_way_177 : decode cX8_way 177 = .ok (.aload_n 0, 1) := by decide +kernel
theorem dX8_way_178 : decode cX8_way 178 = .ok (.getfield 115, 3) := by decide +kernel
theorem dX8_way_181 : decode cX8_way 181 = .ok (.iload 4, 2) := by decide +kernel
theorem dX8_way_183 : decode cX8_way 183 = .ok (.iastore, 1) := by decide +kernel
theorem dX8_way_184 : decode cX8_way 184 = .ok (.aload_n 0, 1) := by decide +kernel
theorem dX8_way_185 : decode cX8_way 185 = .ok (.dup, 1) := by decide +kernel
theorem dX8_way_186 : decode cX8_way 186 = .ok (.getfield 115, 3) := by decide +kernel
theorem dX8_way_189 : decode cX8_way 189 = .ok (.iconst 1, 1) := by decide +kernel
theorem dX8_way_190 : decode cX8_way 190 = .ok (.iadd, 1) := by decide +kernel
theorem dX8_way_191 : decode cX8_way 191 = .ok (.putfield 115, 3) := by decide +kernel
theorem dX8_way_194 : decode cX8_way 194 = .ok (.aload_n 0, 1) := by decide +kernel
theorem dX8_way_195 : decode cX8_way 195 = .ok (.getfield 115, 3) := by decide +kernel
theorem dX8_way_198 : decode cX8_way 198 = .ok (.iconst 1, 1) := by decide +kernel
theorem dX8_way_199 : decode cX8_way 199 = .ok (.isub, 1) := by decide +kernel
theorem dX8_way_200 : decode cX8_way 200 = .ok (.ireturn, 1) := by decide +kernel
set_option maxRecDepth 20000 in
set_option maxRecDepth 100000 in
theorem ggX8_isOpen_X8_in : GoodIn wsX8_isOpen wsX8_in := goodIn_r _ [6] rfl (by decide +kernel)
set_option maxRecDepth 20000 in
theorem gX8_isOpen_X8_in : GoodIn wsX8_isOpen (va_wsS RX8 108 yX8_in wsX8_in) := goodIn_app (goodIn_of _ (by decide +kernel)) ggX8_isOpen_X8_in
theorem dX8_isOpen_0 : decode cX8_isOpen 0 = .ok (.iload_n 2, 1) := by decide +kernel
theorem dX8_isOpen_1 : decode cX8_isOpen 1 = .ok (.sipush 365, 3) := by decide +kernel
theorem dX8_isOpen_4 : decode cX8_isOpen 4 = .ok (.irem, 1) := by decide +kernel
theorem dX8_isOpen_5 : decode cX8_isOpen 5 = .ok (.aload_n 0, 1) := by decide +kernel
theorem dX8_isOpen_6 : decode cX8_isOpen 6 = .ok (.getfield 28, 3) := by decide +kernel
theorem dX8_isOpen_9 : decode cX8_isOpen 9 = .ok (.iload_n 1, 1) := by decide +kernel
theorem dX8_isOpen_10 : decode cX8_isOpen 10 = .ok (.iaload, 1) := by decide +kernel
theorem dX8_isOpen_11 : decode cX8_isOpen 11 = .ok (.aload_n 0, 1) := by decide +kernel
theorem dX8_isOpen_12 : decode cX8_isOpen 12 = .ok (.getfield 31, 3) := by decide +kernel
theorem dX8_isOpen_15 : decode cX8_isOpen 15 = .ok (.iload_n 1, 1) := by decide +kernel
theorem dX8_isOpen_16 : decode cX8_isOpen 16 = .ok (.iaload, 1) := by decide +kernel
theorem dX8_isOpen_17 : decode cX8_isOpen 17 = .ok (.invokestatic 108, 3) := by decide +kernel
theorem dX8_isOpen_20 : decode cX8_isOpen 20 = .ok (.ireturn, 1) := by decide +kernel
theorem dX8_stored_0 : decode cX8_stored 0 = .ok (.aload_n 0, 1) := by decide +kernel
theorem dX8_stored_1 : decode cX8_stored 1 = .ok (.getfield 9, 3) := by decide +kernel
theorem dX8_stored_4 : decode cX8_stored 4 = .ok (.bipush 6, 2) := by decide +kernel
theorem dX8_stored_6 : decode cX8_stored 6 = .ok (.iload_n 1, 1) := by decide +kernel
theorem dX8_stored_7 : decode cX8_stored 7 = .ok (.imul, 1) := by decide +kernel
theorem dX8_stored_8 : decode cX8_stored 8 = .ok (.iload_n 2, 1) := by decide +kernel
theorem dX8_stored_9 : decode cX8_stored 9 = .ok (.iadd, 1) := by decide +kernel
theorem dX8_stored_10 : decode cX8_stored 10 = .ok (.iaload, 1) := by decide +kernel
theorem dX8_stored_11 : decode cX8_stored 11 = .ok (.ireturn, 1) := by decide +kernel
theorem dX8_sums_0 : decode cX8_sums 0 = .ok (.aload_n 0, 1) := by decide +kernel
theorem dX8_sums_1 : decode cX8_sums 1 = .ok (.getfield 98, 3) := by decide +kernel
theorem dX8_sums_4 : decode cX8_sums 4 = .ok (.bipush 6, 2) := by decide +kernel
theorem dX8_sums_6 : decode cX8_sums 6 = .ok (.iload_n 1, 1) := by decide +kernel
theorem dX8_sums_7 : decode cX8_sums 7 = .ok (.imul, 1) := by decide +kernel
theorem dX8_sums_8 : decode cX8_sums 8 = .ok (.iload_n 2, 1) := by decide +kernel
theorem dX8_sums_9 : decode cX8_sums 9 = .ok (.iadd, 1) := by decide +kernel
theorem dX8_sums_10 : decode cX8_sums 10 = .ok (.dup2, 1) := by decide +kernel
theorem dX8_sums_11 : decode cX8_sums 11 = .ok (.iaload, 1) := by decide +kernel
theorem dX8_sums_12 : decode cX8_sums 12 = .ok (.iload_n 3, 1) := by decide +kernel
theorem dX8_sums_13 : decode cX8_sums 13 = .ok (.iadd, 1) := by decide +kernel
theorem dX8_sums_14 : decode cX8_sums 14 = .ok (.iastore, 1) := by decide +kernel
theorem dX8_sums_15 : decode cX8_sums 15 = .ok (.return_, 1) := by decide +kernel
set_option maxRecDepth 20000 in
set_option maxRecDepth 100000 in
theorem ggX8_store_X8_isPost : GoodIn wsX8_store wsX8_isPost := goodIn_r _ [7, 8, 9, 10, 6, 11, 24, 25, 26, 27, 28, 29, 30, 31, 32, 33, 34, 35, 36, 37, 38, 39, 40, 41, 42, 43, 44, 45, 46, 47, 48, 49, 50, 51, 52, 53, 54, 55, 56, 57, 58, 59, 60] rfl (by decide +kernel)
set_option maxRecDepth 20000 in
theorem gX8_store_X8_isPost : GoodIn wsX8_store (wsV RX8 119 RX8 yX8_isPost wsX8_isPost) := goodIn_app (goodIn_of _ (by decide +kernel)) ggX8_store_X8_isPost
set_option maxRecDepth 20000 in
set_option maxRecDepth 100000 in
theorem ggX8_store_X8_isWare : GoodIn wsX8_store wsX8_isWare := goodIn_r _ [14, 9, 10, 6, 11] rfl (by decide +kernel)
set_option maxRecDepth 20000 in
theorem gX8_store_X8_isWare : GoodIn wsX8_store (va_wsS RX8 127 yX8_isWare wsX8_isWare) := goodIn_app (goodIn_of _ (by decide +kernel)) ggX8_store_X8_isWare
set_option maxRecDepth 20000 in
set_option maxRecDepth 100000 in
theorem ggX8_store_X8_in : GoodIn wsX8_store wsX8_in := goodIn_r _ [11] rfl (by decide +kernel)
set_option maxRecDepth 20000 in
theorem gX8_store_X8_in : GoodIn wsX8_store (va_wsS RX8 108 yX8_in wsX8_in) := goodIn_app (goodIn_of _ (by decide +kernel)) ggX8_store_X8_in
set_option maxRecDepth 20000 in
set_option maxRecDepth 100000 in
theorem ggX8_store_X8_stored : GoodIn wsX8_store wsX8_stored := goodIn_r _ [18, 2, 24, 25, 26, 27, 28, 29, 30, 31, 32, 33, 34, 35, 36, 37, 38, 39, 40, 41, 42, 43, 44, 45, 46, 47, 48, 49, 50, 51, 52, 53, 54, 55, 56, 57, 58, 59, 60] rfl (by decide +kernel)
set_option maxRecDepth 20000 in
theorem gX8_store_X8_stored : GoodIn wsX8_store (wsV RX8 130 RX8 yX8_stored wsX8_stored) := goodIn_app (goodIn_of _ (by decide +kernel)) ggX8_store_X8_stored
set_option maxRecDepth 20000 in
set_option maxRecDepth 100000 in
theorem ggX8_store_X8_sums : GoodIn wsX8_store wsX8_sums := goodIn_r _ [22, 23, 24, 25, 26, 27, 28, 29, 30, 31, 32, 33, 34, 35, 36, 37, 38, 39, 40, 41, 42, 43, 44, 45, 46, 47, 48, 49, 50, 51, 52, 53, 54, 55, 56, 57, 58, 59, 60] rfl (by decide +kernel)
set_option maxRecDepth 20000 in
theorem gX8_store_X8_sums : GoodIn wsX8_store (wsV RX8 134 RX8 yX8_sums wsX8_sums) := goodIn_app (goodIn_of _ (by decide +kernel)) ggX8_store_X8_sums
theorem dX8_store_0 : decode cX8_store 0 = .ok (.aload_n 0, 1) := by decide +kernel
theorem dX8_store_1 : decode cX8_store 1 = .ok (.iload_n 1, 1) := by decide +kernel
theorem dX8_store_2 : decode cX8_store 2 = .ok (.invokevirtual 119, 3) := by decide +kernel
theorem dX8_store_5 : decode cX8_store 5 = .ok (.ifCond .eq 34, 3) := by decide +kernel
theorem dX8_store_8 : decode cX8_store 8 = .ok (.iload_n 2, 1) := by decide +kernel
theorem dX8_store_9 : decode cX8_store 9 = .ok (.invokestatic 127, 3) := by decide +kernel
theorem dX8_store_12 : decode cX8_store 12 = .ok (.ifCond .eq 27, 3) := by decide +kernel
theorem dX8_store_15 : decode cX8_store 15 = .ok (.iload_n 3, 1) := by decide +kernel
theorem dX8_store_16 : decode cX8_store 16 = .ok (.iconst 1, 1) := by decide +kernel
theorem dX8_store_17 : decode cX8_store 17 = .ok (.sipush 10000, 3) := by decide +kernel
theorem dX8_store_20 : decode cX8_store 20 = .ok (.invokestatic 108, 3) := by decide +kernel
theorem dX8_store_23 : decode cX8_store 23 = .ok (.ifCond .eq 16, 3) := by decide +kernel
theorem dX8_store_26 : decode cX8_store 26 = .ok (.aload_n 0, 1) := by decide +kernel
theorem dX8_store_27 : decode cX8_store 27 = .ok (.iload_n 1, 1) := by decide +kernel
theorem dX8_store_28 : decode cX8_store 28 = .ok (.iload_n 2, 1) := by decide +kernel
theorem dX8_store_29 : decode cX8_store 29 = .ok (.invokevirtual 130, 3) := by decide +kernel
theorem dX8_store_32 : decode cX8_store 32 = .ok (.iload_n 3, 1) := by decide +kernel
theorem dX8_store_33 : decode cX8_store 33 = .ok (.iadd, 1) := by decide +kernel
theorem dX8_store_34 : decode cX8_store 34 = .ok (.ldc 133, 2) := by decide +kernel
theorem dX8_store_36 : decode cX8_store 36 = .ok (.if_icmp .le 5, 3) := by decide +kernel
theorem dX8_store_39 : decode cX8_store 39 = .ok (.iconst (-1), 1) := by decide +kernel
theorem dX8_store_40 : decode cX8_store 40 = .ok (.ireturn, 1) := by decide +kernel
theorem dX8_store_41 : decode cX8_store 41 = .ok (.aload_n 0, 1) := by decide +kernel
theorem dX8_store_42 : decode cX8_store 42 = .ok (.getfield 9, 3) := by decide +kernel
theorem dX8_store_45 : decode cX8_store 45 = .ok (.bipush 6, 2) := by decide +kernel
theorem dX8_store_47 : decode cX8_store 47 = .ok (.iload_n 1, 1) := by decide +kernel
theorem dX8_store_48 : decode cX8_store 48 = .ok (.imul, 1) := by decide +kernel
theorem dX8_store_49 : decode cX8_store 49 = .ok (.iload_n 2, 1) := by decide +kernel
theorem dX8_store_50 : decode cX8_store 50 = .ok (.iadd, 1) := by decide +kernel
theorem dX8_store_51 : decode cX8_store 51 = .ok (.dup2, 1) := by decide +kernel
theorem dX8_store_52 : decode cX8_store 52 = .ok (.iaload, 1) := by decide +kernel
theorem dX8_store_53 : decode cX8_store 53 = .ok (.iload_n 3, 1) := by decide +kernel
theorem dX8_store_54 : decode cX8_store 54 = .ok (.iadd, 1) := by decide +kernel
theorem dX8_store_55 : decode cX8_store 55 = .ok (.iastore, 1) := by decide +kernel
theorem dX8_store_56 : decode cX8_store 56 = .ok (.aload_n 0, 1) := by decide +kernel
theorem dX8_store_57 : decode cX8_store 57 = .ok (.iconst 0, 1) := by decide +kernel
theorem dX8_store_58 : decode cX8_store 58 = .ok (.iload_n 2, 1) := by decide +kernel
theorem dX8_store_59 : decode cX8_store 59 = .ok (.iload_n 3, 1) := by decide +kernel
theorem dX8_store_60 : decode cX8_store 60 = .ok (.invokevirtual 134, 3) := by decide +kernel
theorem dX8_store_63 : decode cX8_store 63 = .ok (.aload_n 0, 1) := by decide +kernel
theorem dX8_store_64 : decode cX8_store 64 = .ok (.iload_n 1, 1) := by decide +kernel
theorem dX8_store_65 : decode cX8_store 65 = .ok (.iload_n 2, 1) := by decide +kernel
theorem dX8_store_66 : decode cX8_store 66 = .ok (.invokevirtual 130, 3) := by decide +kernel
theorem dX8_store_69 : decode cX8_store 69 = .ok (.ireturn, 1) := by decide +kernel
set_option maxRecDepth 20000 in
set_option maxRecDepth 100000 in
theorem ggX8_load_X8_isWare : GoodIn wsX8_load wsX8_isWare := goodIn_r _ [5, 6, 7, 4, 8] rfl (by decide +kernel)
set_option maxRecDepth 20000 in
theorem gX8_load_X8_isWare : GoodIn wsX8_load (va_wsS RX8 127 yX8_isWare wsX8_isWare) := goodIn_app (goodIn_of _ (by decide +kernel)) ggX8_load_X8_isWare
set_option maxRecDepth 20000 in
set_option maxRecDepth 100000 in
theorem ggX8_load_X8_in : GoodIn wsX8_load wsX8_in := goodIn_r _ [8] rfl (by decide +kernel)
set_option maxRecDepth 20000 in
theorem gX8_load_X8_in : GoodIn wsX8_load (va_wsS RX8 108 yX8_in wsX8_in) := goodIn_app (goodIn_of _ (by decide +kernel)) ggX8_load_X8_in
theorem dX8_load_0 : decode cX8_load 0 = .ok (.iload_n 1, 1) := by decide +kernel
theorem dX8_load_1 : decode cX8_load 1 = .ok (.invokestatic 127, 3) := by decide +kernel
theorem dX8_load_4 : decode cX8_load 4 = .ok (.ifCond .eq 14, 3) := by decide +kernel
theorem dX8_load_7 : decode cX8_load 7 = .ok (.iload_n 2, 1) := by decide +kernel
theorem dX8_load_8 : decode cX8_load 8 = .ok (.iconst 0, 1) := by decide +kernel
theorem dX8_load_9 : decode cX8_load 9 = .ok (.sipush 500, 3) := by decide +kernel
theorem dX8_load_12 : decode cX8_load 12 = .ok (.invokestatic 108, 3) := by decide +kernel
theorem dX8_load_15 : decode cX8_load 15 = .ok (.ifCond .ne 5, 3) := by decide +kernel
theorem dX8_load_18 : decode cX8_load 18 = .ok (.iconst 0, 1) := by decide +kernel
theorem dX8_load_19 : decode cX8_load 19 = .ok (.ireturn, 1) := by decide +kernel
theorem dX8_load_20 : decode cX8_load 20 = .ok (.aload_n 0, 1) := by decide +kernel
theorem dX8_load_21 : decode cX8_load 21 = .ok (.getfield 37, 3) := by decide +kernel
theorem dX8_load_24 : decode cX8_load 24 = .ok (.iload_n 1, 1) := by decide +kernel
theorem dX8_load_25 : decode cX8_load 25 = .ok (.iload_n 2, 1) := by decide +kernel
theorem dX8_load_26 : decode cX8_load 26 = .ok (.iastore, 1) := by decide +kernel
theorem dX8_load_27 : decode cX8_load 27 = .ok (.iconst 1, 1) := by decide +kernel
theorem dX8_load_28 : decode cX8_load 28 = .ok (.ireturn, 1) := by decide +kernel
set_option maxRecDepth 20000 in
set_option maxRecDepth 100000 in
theorem ggX8_send_X8_isPost : GoodIn wsX8_send wsX8_isPost := goodIn_r _ [26, 27, 28, 29, 25, 30, 50, 51, 52, 53, 54, 55, 56, 57, 58, 59, 60, 61, 62, 63, 64, 65, 66, 67, 68, 69, 70, 71, 72, 73, 74, 75, 76, 77, 78, 79, 80, 81, 82, 83, 84, 85, 86] rfl (by decide +kernel)
set_option maxRecDepth 20000 in
theorem gX8_send_X8_isPost : GoodIn wsX8_send (wsV RX8 119 RX8 yX8_isPost wsX8_isPost) := goodIn_app (goodIn_of _ (by decide +kernel)) ggX8_send_X8_isPost
set_option maxRecDepth 20000 in
set_option maxRecDepth 100000 in
theorem ggX8_send_X8_in : GoodIn wsX8_send wsX8_in := goodIn_r _ [30] rfl (by decide +kernel)
set_option maxRecDepth 20000 in
theorem gX8_send_X8_in : GoodIn wsX8_send (va_wsS RX8 108 yX8_in wsX8_in) := goodIn_app (goodIn_of _ (by decide +kernel)) ggX8_send_X8_in
set_option maxRecDepth 20000 in
set_option maxRecDepth 100000 in
theorem ggX8_send_X8_stored : GoodIn wsX8_send wsX8_stored := goodIn_r _ [34, 15, 50, 51, 52, 53, 54, 55, 56, 57, 58, 59, 60, 61, 62, 63, 64, 65, 66, 67, 68, 69, 70, 71, 72, 73, 74, 75, 76, 77, 78, 79, 80, 81, 82, 83, 84, 85, 86] rfl (by decide +kernel)
set_option maxRecDepth 20000 in
theorem gX8_send_X8_stored : GoodIn wsX8_send (wsV RX8 130 RX8 yX8_stored wsX8_stored) := goodIn_app (goodIn_of _ (by decide +kernel)) ggX8_send_X8_stored
set_option maxRecDepth 20000 in
set_option maxRecDepth 100000 in
theorem ggX8_send_X8_isOpen : GoodIn wsX8_send wsX8_isOpen := goodIn_r _ [38, 39, 40, 28, 29, 25, 30, 50, 51, 52, 53, 54, 55, 56, 57, 58, 59, 60, 61, 62, 63, 64, 65, 66, 67, 68, 69, 70, 71, 72, 73, 74, 75, 76, 77, 78, 79, 80, 81, 82, 83, 84, 85, 86] rfl (by decide +kernel)
set_option maxRecDepth 20000 in
theorem gX8_send_X8_isOpen : GoodIn wsX8_send (wsV RX8 140 RX8 yX8_isOpen wsX8_isOpen) := goodIn_app (goodIn_of _ (by decide +kernel)) ggX8_send_X8_isOpen
set_option maxRecDepth 20000 in
set_option maxRecDepth 100000 in
theorem ggX8_send_X8_next : GoodIn wsX8_send wsX8_next := goodIn_r _ [44, 45, 1, 2, 3, 27, 22, 23, 24, 25, 26, 28, 29, 30, 46, 47, 48, 49, 50, 51, 52, 53, 54, 55, 56, 57, 58, 59, 60, 61, 62, 63, 64, 65, 66, 67, 68, 69, 70, 71, 72, 73, 74, 75, 76, 77, 78, 79, 80, 81, 82, 83, 84, 85, 86] rfl (by decide +kernel)
set_option maxRecDepth 20000 in
theorem gX8_send_X8_next : GoodIn wsX8_send (wsV RX8 147 RX8 yX8_next wsX8_next) := goodIn_app (goodIn_of _ (by decide +kernel)) ggX8_send_X8_next
theorem dX8_send_0 : decode cX8_send 0 = .ok (.aload_n 0, 1) := by decide +kernel
theorem dX8_send_1 : decode cX8_send 1 = .ok (.iload_n 1, 1) := by decide +kernel
theorem dX8_send_2 : decode cX8_send 2 = .ok (.invokevirtual 119, 3) := by decide +kernel
theorem dX8_send_5 : decode cX8_send 5 = .ok (.ifCond .eq 37, 3) := by decide +kernel
theorem dX8_send_8 : decode cX8_send 8 = .ok (.iload_n 2, 1) := by decide +kernel
theorem dX8_send_9 : decode cX8_send 9 = .ok (.iconst 0, 1) := by decide +kernel
theorem dX8_send_10 : decode cX8_send 10 = .ok (.aload_n 0, 1) := by decide +kernel
theorem dX8_send_11 : decode cX8_send 11 = .ok (.getfield 115, 3) := by decide +kernel
theorem dX8_send_14 : decode cX8_send 14 = .ok (.iconst 1, 1) := by decide +kernel
theorem dX8_send_15 : decode cX8_send 15 = .ok (.isub, 1) := by decide +kernel
theorem dX8_send_16 : decode cX8_send 16 = .ok (.invokestatic 108, 3) := by decide +kernel
theorem dX8_send_19 : decode cX8_send 19 = .ok (.ifCond .eq 23, 3) := by decide +kernel
theorem dX8_send_22 : decode cX8_send 22 = .ok (.aload_n 0, 1) := by decide +kernel
theorem dX8_send_23 : decode cX8_send 23 = .ok (.getfield 19, 3) := by decide +kernel
theorem dX8_send_26 : decode cX8_send 26 = .ok (.iload_n 2, 1) := by decide +kernel
theorem dX8_send_27 : decode cX8_send 27 = .ok (.iaload, 1) := by decide +kernel
theorem dX8_send_28 : decode cX8_send 28 = .ok (.iload_n 1, 1) := by decide +kernel
theorem dX8_send_29 : decode cX8_send 29 = .ok (.if_icmp .eq 15, 3) := by decide +kernel
theorem dX8_send_32 : decode cX8_send 32 = .ok (.aload_n 0, 1) := by decide +kernel
theorem dX8_send_33 : decode cX8_send 33 = .ok (.getfield 22, 3) := by decide +kernel
theorem dX8_send_36 : decode cX8_send 36 = .ok (.iload_n 2, 1) := by decide +kernel
theorem dX8_send_37 : decode cX8_send 37 = .ok (.iaload, 1) := by decide +kernel
theorem dX8_send_38 : decode cX8_send 38 = .ok (.iload_n 1, 1) := by decide +kernel
theorem dX8_send_39 : decode cX8_send 39 = .ok (.if_icmp .eq 5, 3) := by decide +kernel
theorem dX8_send_42 : decode cX8_send 42 = .ok (.iconst (-1), 1) := by decide +kernel
theorem dX8_send_43 : decode cX8_send 43 = .ok (.ireturn, 1) := by decide +kernel
theorem dX8_send_44 : decode cX8_send 44 = .ok (.iconst 0, 1) := by decide +kernel
theorem dX8_send_45 : decode cX8_send 45 = .ok (.istore_n 3, 1) := by decide +kernel
theorem dX8_send_46 : decode cX8_send 46 = .ok (.iconst 0, 1) := by decide +kernel
theorem dX8_send_47 : decode cX8_send 47 = .ok (.istore 4, 2) := by decide +kernel
theorem dX8_send_49 : decode cX8_send 49 = .ok (.iload 4, 2) := by decide +kernel
theorem dX8_send_51 : decode cX8_send 51 = .ok (.bipush 6, 2) := by decide +kernel
theorem dX8_send_53 : decode cX8_send 53 = .ok (.if_icmp .ge 38, 3) := by decide +kernel
theorem dX8_send_56 : decode cX8_send 56 = .ok (.iload_n 3, 1) := by decide +kernel
theorem dX8_send_57 : decode cX8_send 57 = .ok (.aload_n 0, 1) := by decide +kernel
theorem dX8_send_58 : decode cX8_send 58 = .ok (.getfield 37, 3) := by decide +kernel
theorem dX8_send_61 : decode cX8_send 61 = .ok (.iload 4, 2) := by decide +kernel
theorem dX8_send_63 : decode cX8_send 63 = .ok (.iaload, 1) := by decide +kernel
theorem dX8_send_64 : decode cX8_send 64 = .ok (.iadd, 1) := by decide +kernel
theorem dX8_send_65 : decode cX8_send 65 = .ok (.istore_n 3, 1) := by decide +kernel
theorem dX8_send_66 : decode cX8_send 66 = .ok (.aload_n 0, 1) := by decide +kernel
theorem dX8_send_67 : decode cX8_send 67 = .ok (.getfield 37, 3) := by decide +kernel
theorem dX8_send_70 : decode cX8_send 70 = .ok (.iload 4, 2) := by decide +kernel
theorem dX8_send_72 : decode cX8_send 72 = .ok (.iaload, 1) := by decide +kernel
theorem dX8_send_73 : decode cX8_send 73 = .ok (.aload_n 0, 1) := by decide +kernel
theorem dX8_send_74 : decode cX8_send 74 = .ok (.iload_n 1, 1) := by decide +kernel
theorem dX8_send_75 : decode cX8_send 75 = .ok (.iload 4, 2) := by decide +kernel
theorem dX8_send_77 : decode cX8_send 77 = .ok (.invokevirtual 130, 3) := by decide +kernel
theorem dX8_send_80 : decode cX8_send 80 = .ok (.if_icmp .le 5, 3) := by decide +kernel
theorem dX8_send_83 : decode cX8_send 83 = .ok (.iconst (-1), 1) := by decide +kernel
theorem dX8_send_84 : decode cX8_send 84 = .ok (.ireturn, 1) := by decide +kernel
theorem dX8_send_85 : decode cX8_send 85 = .ok (.iinc 4 1, 3) := by decide +kernel
theorem dX8_send_88 : decode cX8_send 88 = .ok (.goto (-39), 3) := by decide +kernel
theorem dX8_send_91 : decode cX8_send 91 = .ok (.aload_n 0, 1) := by decide +kernel
theorem dX8_send_92 : decode cX8_send 92 = .ok (.iload_n 2, 1) := by decide +kernel
theorem dX8_send_93 : decode cX8_send 93 = .ok (.aload_n 0, 1) := by decide +kernel
theorem dX8_send_94 : decode cX8_send 94 = .ok (.getfield 137, 3) := by decide +kernel
theorem dX8_send_97 : decode cX8_send 97 = .ok (.invokevirtual 140, 3) := by decide +kernel
theorem dX8_send_100 : decode cX8_send 100 = .ok (.ifCond .eq 32, 3) := by decide +kernel
theorem dX8_send_103 : decode cX8_send 103 = .ok (.iload_n 3, 1) := by decide +kernel
theorem dX8_send_104 : decode cX8_send 104 = .ok (.aload_n 0, 1) := by decide +kernel
theorem dX8_send_105 : decode cX8_send 105 = .ok (.getfield 34, 3) := by decide +kernel
theorem dX8_send_108 : decode cX8_send 108 = .ok (.iload_n 2, 1) := by decide +kernel
theorem dX8_send_109 : decode cX8_send 109 = .ok (.iaload, 1) := by decide +kernel
theorem dX8_send_110 : decode cX8_send 110 = .ok (.if_icmp .gt 22, 3) := by decide +kernel
theorem dX8_send_113 : decode cX8_send 113 = .ok (.aload_n 0, 1) := by decide +kernel
theorem dX8_send_114 : decode cX8_send 114 = .ok (.getfield 112, 3) := by decide +kernel
theorem dX8_send_117 : decode cX8_send 117 = .ok (.bipush 120, 2) := by decide +kernel
theorem dX8_send_119 : decode cX8_send 119 = .ok (.if_icmp .eq 13, 3) := by decide +kernel
theorem dX8_send_122 : decode cX8_send 122 = .ok (.aload_n 0, 1) := by decide +kernel
theorem dX8_send_123 : decode cX8_send 123 = .ok (.getfield 137, 3) := by decide +kernel
theorem dX8_send_126 : decode cX8_send 126 = .ok (.sipush 3000, 3) := by decide +kernel
theorem dX8_send_129 : decode cX8_send 129 = .ok (.if_icmp .ne 5, 3) := by decide +kernel
theorem dX8_send_132 : decode cX8_send 132 = .ok (.iconst (-1), 1) := by decide +kernel
theorem dX8_send_133 : decode cX8_send 133 = .ok (.ireturn, 1) := by decide +kernel
theorem dX8_send_134 : decode cX8_send 134 = .ok (.aload_n 0, 1) := by decide +kernel
theorem dX8_send_135 : decode cX8_send 135 = .ok (.getfield 112, 3) := by decide +kernel
theorem dX8_send_138 : decode cX8_send 138 = .ok (.istore 4, 2) := by decide +kernel
theorem dX8_send_140 : decode cX8_send 140 = .ok (.aload_n 0, 1) := by decide +kernel
theorem dX8_send_141 : decode cX8_send 141 = .ok (.getfield 40, 3) := by decide +kernel
theorem dX8_send_144 : decode cX8_send 144 = .ok (.iload 4, 2) := by decide +kernel
theorem dX8_send_146 : decode cX8_send 146 = .ok (.iload_n 1, 1) := by decide +kernel
theorem dX8_send_147 : decode cX8_send 147 = .ok (.iastore, 1) := by decide +kernel
theorem dX8_send_148 : decode cX8_send 148 = .ok (.aload_n 0, 1) := by decide +kernel
theorem dX8_send_149 : decode cX8_send 149 = .ok (.getfield 43, 3) := by decide +kernel
theorem dX8_send_152 : decode cX8_send 152 = .ok (.iload 4, 2) := by decide +kernel
theorem dX8_send_154 : decode cX8_send 154 = .ok (.aload_n 0, 1) := by decide +kernel
theorem dX8_send_155 : decode cX8_send 155 = .ok (.getfield 19, 3) := by decide +kernel
theorem dX8_send_158 : decode cX8_send 158 = .ok (.iload_n 2, 1) := by decide +kernel
theorem dX8_send_159 : decode cX8_send 159 = .ok (.iaload, 1) := by decide +kernel
theorem dX8_send_160 : decode cX8_send 160 = .ok (.iload_n 1, 1) := by decide +kernel
theorem dX8_send_161 : decode cX8_send 161 = .ok (.if_icmp .ne 12, 3) := by decide +kernel
theorem dX8_send_164 : decode cX8_send 164 = .ok (.aload_n 0, 1) := by decide +kernel
theorem dX8_send_165 : decode cX8_send 165 = .ok (.getfield 22, 3) := by decide +kernel
theorem dX8_send_168 : decode cX8_send 168 = .ok (.iload_n 2, 1) := by decide +kernel
theorem dX8_send_169 : decode cX8_send 169 = .ok (.iaload, 1) := by decide +kernel
theorem dX8_send_170 : decode cX8_send 170 = .ok (.goto 9, 3) := by decide +kernel
theorem dX8_send_173 : decode cX8_send 173 = .ok (.aload_n 0, 1) := by decide +kernel
theorem dX8_send_174 : decode cX8_send 174 = .ok (.getfield 19, 3) := by decide +kernel
theorem dX8_send_177 : decode cX8_send 177 = .ok (.iload_n 2, 1) := by decide +kernel
theorem dX8_send_178 : decode cX8_send 178 = .ok (.iaload, 1) := by decide +kernel
theorem dX8_send_179 : decode cX8_send 179 = .ok (.iastore, 1) := by decide +kernel
theorem dX8_send_180 : decode cX8_send 180 = .ok (.aload_n 0, 1) := by decide +kernel
theorem dX8_send_181 : decode cX8_send 181 = .ok (.getfield 46, 3) := by decide +kernel
theorem dX8_send_184 : decode cX8_send 184 = .ok (.iload 4, 2) := by decide +kernel
theorem dX8_send_186 : decode cX8_send 186 = .ok (.iload_n 2, 1) := by decide +kernel
theorem dX8_send_187 : decode cX8_send 187 = .ok (.iastore, 1) := by decide +kernel
theorem dX8_send_188 : decode cX8_send 188 = .ok (.aload_n 0, 1) := by decide +kernel
theorem dX8_send_189 : decode cX8_send 189 = .ok (.getfield 49, 3) := by decide +kernel
theorem dX8_send_192 : decode cX8_send 192 = .ok (.iload 4, 2) := by decide +kernel
theorem dX8_send_194 : decode cX8_send 194 = .ok (.aload_n 0, 1) := by decide +kernel
theorem dX8_send_195 : decode cX8_send 195 = .ok (.getfield 25, 3) := by decide +kernel
theorem dX8_send_198 : decode cX8_send 198 = .ok (.iload_n 2, 1) := by decide +kernel
theorem dX8_send_199 : decode cX8_send 199 = .ok (.iaload, 1) := by decide +kernel
theorem dX8_send_200 : decode cX8_send 200 = .ok (.iastore, 1) := by decide +kernel
theorem dX8_send_201 : decode cX8_send 201 = .ok (.aload_n 0, 1) := by decide +kernel
theorem dX8_send_202 : decode cX8_send 202 = .ok (.getfield 55, 3) := by decide +kernel
theorem dX8_send_205 : decode cX8_send 205 = .ok (.iload 4, 2) := by decide +kernel
theorem dX8_send_207 : decode cX8_send 207 = .ok (.aload_n 0, 1) := by decide +kernel
theorem dX8_send_208 : decode cX8_send 208 = .ok (.getfield 137, 3) := by decide +kernel
theorem dX8_send_211 : decode cX8_send 211 = .ok (.iastore, 1) := by decide +kernel
theorem dX8_send_212 : decode cX8_send 212 = .ok (.aload_n 0, 1) := by decide +kernel
theorem dX8_send_213 : decode cX8_send 213 = .ok (.getfield 58, 3) := by decide +kernel
theorem dX8_send_216 : decode cX8_send 216 = .ok (.iload 4, 2) := by decide +kernel
theorem dX8_send_218 : decode cX8_send 218 = .ok (.iconst (-1), 1) := by decide +kernel
theorem dX8_send_219 : decode cX8_send 219 = .ok (.iastore, 1) := by decide +kernel
theorem dX8_send_220 : decode cX8_send 220 = .ok (.iconst 0, 1) := by decide +kernel
theorem dX8_send_221 : decode cX8_send 221 = .ok (.istore 5, 2) := by decide +kernel
theorem dX8_send_223 : decode cX8_send 223 = .ok (.iload 5, 2) := by decide +kernel
theorem dX8_send_225 : decode cX8_send 225 = .ok (.bipush 6, 2) := by decide +kernel
theorem dX8_send_227 : decode cX8_send 227 = .ok (.if_icmp .ge 79, 3) := by decide +kernel
theorem dX8_send_230 : decode cX8_send 230 = .ok (.aload_n 0, 1) := by decide +kernel
theorem dX8_send_231 : decode cX8_send 231 = .ok (.getfield 9, 3) := by decide +kernel
theorem dX8_send_234 : decode cX8_send 234 = .ok (.bipush 6, 2) := by decide +kernel
theorem dX8_send_236 : decode cX8_send 236 = .ok (.iload_n 1, 1) := by decide +kernel
theorem dX8_send_237 : decode cX8_send 237 = .ok (.imul, 1) := by decide +kernel
theorem dX8_send_238 : decode cX8_send 238 = .ok (.iload 5, 2) := by decide +kernel
theorem dX8_send_240 : decode cX8_send 240 = .ok (.iadd, 1) := by decide +kernel
theorem dX8_send_241 : decode cX8_send 241 = .ok (.dup2, 1) := by decide +kernel
theorem dX8_send_242 : decode cX8_send 242 = .ok (.iaload, 1) := by decide +kernel
theorem dX8_send_243 : decode cX8_send 243 = .ok (.aload_n 0, 1) := by decide +kernel
theorem dX8_send_244 : decode cX8_send 244 = .ok (.getfield 37, 3) := by decide +kernel
theorem dX8_send_247 : decode cX8_send 247 = .ok (.iload 5, 2) := by decide +kernel
theorem dX8_send_249 : decode cX8_send 249 = .ok (.iaload, 1) := by decide +kernel
theorem dX8_send_250 : decode cX8_send 250 = .ok (.isub, 1) := by decide +kernel
theorem dX8_send_251 : decode cX8_send 251 = .ok (.iastore, 1) := by decide +kernel
theorem dX8_send_252 : decode cX8_send 252 = .ok (.aload_n 0, 1) := by decide +kernel
theorem dX8_send_253 : decode cX8_send 253 = .ok (.getfield 64, 3) := by decide +kernel
theorem dX8_send_256 : decode cX8_send 256 = .ok (.bipush 6, 2) := by decide +kernel
theorem dX8_send_258 : decode cX8_send 258 = .ok (.iload 4, 2) := by decide +kernel
theorem dX8_send_260 : decode cX8_send 260 = .ok (.imul, 1) := by decide +kernel
theorem dX8_send_261 : decode cX8_send 261 = .ok (.iload 5, 2) := by decide +kernel
theorem dX8_send_263 : decode cX8_send 263 = .ok (.iadd, 1) := by decide +kernel
theorem dX8_send_264 : decode cX8_send 264 = .ok (.aload_n 0, 1) := by decide +kernel
theorem dX8_send_265 : decode cX8_send 265 = .ok (.getfield 37, 3) := by decide +kernel
theorem dX8_send_268 : decode cX8_send 268 = .ok (.iload 5, 2) := by decide +kernel
theorem dX8_send_270 : decode cX8_send 270 = .ok (.iaload, 1) := by decide +kernel
theorem dX8_send_271 : decode cX8_send 271 = .ok (.iastore, 1) := by decide +kernel
theorem dX8_send_272 : decode cX8_send 272 = .ok (.aload_n 0, 1) := by decide +kernel
theorem dX8_send_273 : decode cX8_send 273 = .ok (.getfield 67, 3) := by decide +kernel
theorem dX8_send_276 : decode cX8_send 276 = .ok (.bipush 6, 2) := by decide +kernel
theorem dX8_send_278 : decode cX8_send 278 = .ok (.iload 4, 2) := by decide +kernel
theorem dX8_send_280 : decode cX8_send 280 = .ok (.imul, 1) := by decide +kernel
theorem dX8_send_281 : decode cX8_send 281 = .ok (.iload 5, 2) := by decide +kernel
theorem dX8_send_283 : decode cX8_send 283 = .ok (.iadd, 1) := by decide +kernel
theorem dX8_send_284 : decode cX8_send 284 = .ok (.aload_n 0, 1) := by decide +kernel
theorem dX8_send_285 : decode cX8_send 285 = .ok (.getfield 37, 3) := by decide +kernel
theorem dX8_send_288 : decode cX8_send 288 = .ok (.iload 5, 2) := by decide +kernel
theorem dX8_send_290 : decode cX8_send 290 = .ok (.iaload, 1) := by decide +kernel
theorem dX8_send_291 : decode cX8_send 291 = .ok (.iastore, 1) := by decide +kernel
theorem dX8_send_292 : decode cX8_send 292 = .ok (.aload_n 0, 1) := by decide +kernel
theorem dX8_send_293 : decode cX8_send 293 = .ok (.getfield 37, 3) := by decide +kernel
theorem dX8_send_296 : decode cX8_send 296 = .ok (.iload 5, 2) := by decide +kernel
theorem dX8_send_298 : decode cX8_send 298 = .ok (.iconst 0, 1) := by decide +kernel
theorem dX8_send_299 : decode cX8_send 299 = .ok (.iastore, 1) := by decide +kernel
theorem dX8_send_300 : decode cX8_send 300 = .ok (.iinc 5 1, 3) := by decide +kernel
theorem dX8_send_303 : decode cX8_send 303 = .ok (.goto (-80), 3) := by decide +kernel
theorem dX8_send_306 : decode cX8_send 306 = .ok (.iconst 0, 1) := by decide +kernel
theorem dX8_send_307 : decode cX8_send 307 = .ok (.istore 5, 2) := by decide +kernel
theorem dX8_send_309 : decode cX8_send 309 = .ok (.iload 5, 2) := by decide +kernel
theorem dX8_send_311 : decode cX8_send 311 = .ok (.aload_n 0, 1) := by decide +kernel
theorem dX8_send_312 : decode cX8_send 312 = .ok (.getfield 144, 3) := by decide +kernel
theorem dX8_send_315 : decode cX8_send 315 = .ok (.if_icmp .ge 69, 3) := by decide +kernel
theorem dX8_send_318 : decode cX8_send 318 = .ok (.aload_n 0, 1) := by decide +kernel
theorem dX8_send_319 : decode cX8_send 319 = .ok (.getfield 80, 3) := by decide +kernel
theorem dX8_send_322 : decode cX8_send 322 = .ok (.iload 5, 2) := by decide +kernel
theorem dX8_send_324 : decode cX8_send 324 = .ok (.iaload, 1) := by decide +kernel
theorem dX8_send_325 : decode cX8_send 325 = .ok (.iload_n 1, 1) := by decide +kernel
theorem dX8_send_326 : decode cX8_send 326 = .ok (.if_icmp .ne 52, 3) := by decide +kernel
theorem dX8_send_329 : decode cX8_send 329 = .ok (.aload_n 0, 1) := by decide +kernel
theorem dX8_send_330 : decode cX8_send 330 = .ok (.iload_n 1, 1) := by decide +kernel
theorem dX8_send_331 : decode cX8_send 331 = .ok (.aload_n 0, 1) := by decide +kernel
theorem dX8_send_332 : decode cX8_send 332 = .ok (.getfield 77, 3) := by decide +kernel
theorem dX8_send_335 : decode cX8_send 335 = .ok (.iload 5, 2) := by decide +kernel
theorem dX8_send_337 : decode cX8_send 337 = .ok (.iaload, 1) := by decide +kernel
theorem dX8_send_338 : decode cX8_send 338 = .ok (.invokevirtual 147, 3) := by decide +kernel
theorem dX8_send_341 : decode cX8_send 341 = .ok (.aload_n 0, 1) := by decide +kernel
theorem dX8_send_342 : decode cX8_send 342 = .ok (.getfield 43, 3) := by decide +kernel
theorem dX8_send_345 : decode cX8_send 345 = .ok (.iload 4, 2) := by decide +kernel
theorem dX8_send_347 : decode cX8_send 347 = .ok (.iaload, 1) := by decide +kernel
theorem dX8_send_348 : decode cX8_send 348 = .ok (.if_icmp .eq 6, 3) := by decide +kernel
theorem dX8_send_351 : decode cX8_send 351 = .ok (.goto 27, 3) := by decide +kernel
theorem dX8_send_354 : decode cX8_send 354 = .ok (.aload_n 0, 1) := by decide +kernel
theorem dX8_send_355 : decode cX8_send 355 = .ok (.getfield 80, 3) := by decide +kernel
theorem dX8_send_358 : decode cX8_send 358 = .ok (.iload 5, 2) := by decide +kernel
theorem dX8_send_360 : decode cX8_send 360 = .ok (.sipush 2000, 3) := by decide +kernel
theorem dX8_send_363 : decode cX8_send 363 = .ok (.iload 4, 2) := by decide +kernel
theorem dX8_send_365 : decode cX8_send 365 = .ok (.iadd, 1) := by decide +kernel
theorem dX8_send_366 : decode cX8_send 366 = .ok (.iastore, 1) := by decide +kernel
theorem dX8_send_367 : decode cX8_send 367 = .ok (.aload_n 0, 1) := by decide +kernel
theorem dX8_send_368 : decode cX8_send 368 = .ok (.getfield 61, 3) := by decide +kernel
theorem dX8_send_371 : decode cX8_send 371 = .ok (.iload 4, 2) := by decide +kernel
theorem dX8_send_373 : decode cX8_send 373 = .ok (.dup2, 1) := by decide +kernel
theorem dX8_send_374 : decode cX8_send 374 = .ok (.iaload, 1) := by decide +kernel
theorem dX8_send_375 : decode cX8_send 375 = .ok (.iconst 1, 1) := by decide +kernel
theorem dX8_send_376 : decode cX8_send 376 = .ok (.iadd, 1) := by decide +kernel
theorem dX8_send_377 : decode cX8_send 377 = .ok (.iastore, 1) := by decide +kernel
theorem dX8_send_378 : decode cX8_send 378 = .ok (.iinc 5 1, 3) := by decide +kernel
theorem dX8_send_381 : decode cX8_send 381 = .ok (.goto (-72), 3) := by decide +kernel
theorem dX8_send_384 : decode cX8_send 384 = .ok (.aload_n 0, 1) := by decide +kernel
theorem dX8_send_385 : decode cX8_send 385 = .ok (.dup, 1) := by decide +kernel
theorem dX8_send_386 : decode cX8_send 386 = .ok (.getfield 112, 3) := by decide +kernel
theorem dX8_send_389 : decode cX8_send 389 = .ok (.iconst 1, 1) := by decide +kernel
theorem dX8_send_390 : decode cX8_send 390 = .ok (.iadd, 1) := by decide +kernel
theorem dX8_send_391 : decode cX8_send 391 = .ok (.putfield 112, 3) := by decide +kernel
theorem dX8_send_394 : decode cX8_send 394 = .ok (.iload 4, 2) := by decide +kernel
theorem dX8_send_396 : decode cX8_send 396 = .ok (.ireturn, 1) := by decide +kernel
set_option maxRecDepth 20000 in
set_option maxRecDepth 100000 in
theorem ggX8_isAway_X8_isCanoe : GoodIn wsX8_isAway wsX8_isCanoe := goodIn_r _ [6, 7, 8, 9, 5, 10, 11, 12, 13, 14, 15, 16, 17, 18, 19, 20, 21, 22, 23, 24, 25, 26, 27, 28, 29, 30, 31, 32, 33, 34, 35, 36, 37, 38, 39, 40, 41, 42, 43, 44, 45, 46, 47] rfl (by decide +kernel)
set_option maxRecDepth 20000 in
theorem gX8_isAway_X8_isCanoe : GoodIn wsX8_isAway (wsV RX8 150 RX8 yX8_isCanoe wsX8_isCanoe) := goodIn_app (goodIn_of _ (by decide +kernel)) ggX8_isAway_X8_isCanoe
theorem dX8_isAway_0 : decode cX8_isAway 0 = .ok (.aload_n 0, 1) := by decide +kernel
theorem dX8_isAway_1 : decode cX8_isAway 1 = .ok (.iload_n 1, 1) := by decide +kernel
theorem dX8_isAway_2 : decode cX8_isAway 2 = .ok (.invokevirtual 150, 3) := by decide +kernel
theorem dX8_isAway_5 : decode cX8_isAway 5 = .ok (.ifCond .eq 16, 3) := by decide +kernel
theorem dX8_isAway_8 : decode cX8_isAway 8 = .ok (.aload_n 0, 1) := by decide +kernel
theorem dX8_isAway_9 : decode cX8_isAway 9 = .ok (.getfield 52, 3) := by decide +kernel
theorem dX8_isAway_12 : decode cX8_isAway 12 = .ok (.iload_n 1, 1) := by decide +kernel
theorem dX8_isAway_13 : decode cX8_isAway 13 = .ok (.iaload, 1) := by decide +kernel
theorem dX8_isAway_14 : decode cX8_isAway 14 = .ok (.ifCond .ne 7, 3) := by decide +kernel
theorem dX8_isAway_17 : decode cX8_isAway 17 = .ok (.iconst 1, 1) := by decide +kernel
theorem dX8_isAway_18 : decode cX8_isAway 18 = .ok (.goto 4, 3) := by decide +kernel
theorem dX8_isAway_21 : decode cX8_isAway 21 = .ok (.iconst 0, 1) := by decide +kernel
theorem dX8_isAway_22 : decode cX8_isAway 22 = .ok (.ireturn, 1) := by decide +kernel
set_option maxRecDepth 20000 in
set_option maxRecDepth 100000 in
theorem ggX8_lose_X8_isAway : GoodIn wsX8_lose wsX8_isAway := goodIn_r _ [12, 7, 13, 14, 15, 11, 16, 17, 18, 19, 20, 26, 27, 28, 29, 30, 31, 32, 33, 34, 35, 36, 37, 38, 39, 40, 41, 42, 43, 44, 45, 46, 47, 48, 49, 50, 51, 52, 53, 54, 55, 56, 57, 58, 59, 60, 61, 62] rfl (by decide +kernel)
set_option maxRecDepth 20000 in
theorem gX8_lose_X8_isAway : GoodIn wsX8_lose (wsV RX8 153 RX8 yX8_isAway wsX8_isAway) := goodIn_app (goodIn_of _ (by decide +kernel)) ggX8_lose_X8_isAway
set_option maxRecDepth 20000 in
set_option maxRecDepth 100000 in
theorem ggX8_lose_X8_sums : GoodIn wsX8_lose wsX8_sums := goodIn_r _ [24, 25, 26, 27, 28, 29, 30, 31, 32, 33, 34, 35, 36, 37, 38, 39, 40, 41, 42, 43, 44, 45, 46, 47, 48, 49, 50, 51, 52, 53, 54, 55, 56, 57, 58, 59, 60, 61, 62] rfl (by decide +kernel)
set_option maxRecDepth 20000 in
theorem gX8_lose_X8_sums : GoodIn wsX8_lose (wsV RX8 134 RX8 yX8_sums wsX8_sums) := goodIn_app (goodIn_of _ (by decide +kernel)) ggX8_lose_X8_sums
theorem dX8_lose_0 : decode cX8_lose 0 = .ok (.aload_n 0, 1) := by decide +kernel
theorem dX8_lose_1 : decode cX8_lose 1 = .ok (.iload_n 1, 1) := by decide +kernel
theorem dX8_lose_2 : decode cX8_lose 2 = .ok (.invokevirtual 153, 3) := by decide +kernel
theorem dX8_lose_5 : decode cX8_lose 5 = .ok (.ifCond .ne 5, 3) := by decide +kernel
theorem dX8_lose_8 : decode cX8_lose 8 = .ok (.iconst (-1), 1) := by decide +kernel
theorem dX8_lose_9 : decode cX8_lose 9 = .ok (.ireturn, 1) := by decide +kernel
theorem dX8_lose_10 : decode cX8_lose 10 = .ok (.iconst 0, 1) := by decide +kernel
theorem dX8_lose_11 : decode cX8_lose 11 = .ok (.istore_n 2, 1) := by decide +kernel
theorem dX8_lose_12 : decode cX8_lose 12 = .ok (.iconst 0, 1) := by decide +kernel
theorem dX8_lose_13 : decode cX8_lose 13 = .ok (.istore_n 3, 1) := by decide +kernel
theorem dX8_lose_14 : decode cX8_lose 14 = .ok (.iload_n 3, 1) := by decide +kernel
theorem dX8_lose_15 : decode cX8_lose 15 = .ok (.bipush 6, 2) := by decide +kernel
theorem dX8_lose_17 : decode cX8_lose 17 = .ok (.if_icmp .ge 52, 3) := by decide +kernel
theorem dX8_lose_20 : decode cX8_lose 20 = .ok (.iload_n 2, 1) := by decide +kernel
theorem dX8_lose_21 : decode cX8_lose 21 = .ok (.aload_n 0, 1) := by decide +kernel
theorem dX8_lose_22 : decode cX8_lose 22 = .ok (.getfield 64, 3) := by decide +kernel
theorem dX8_lose_25 : decode cX8_lose 25 = .ok (.bipush 6, 2) := by decide +kernel
theorem dX8_lose_27 : decode cX8_lose 27 = .ok (.iload_n 1, 1) := by decide +kernel
theorem dX8_lose_28 : decode cX8_lose 28 = .ok (.imul, 1) := by decide +kernel
theorem dX8_lose_29 : decode cX8_lose 29 = .ok (.iload_n 3, 1) := by decide +kernel
theorem dX8_lose_30 : decode cX8_lose 30 = .ok (.iadd, 1) := by decide +kernel
theorem dX8_lose_31 : decode cX8_lose 31 = .ok (.iaload, 1) := by decide +kernel
theorem dX8_lose_32 : decode cX8_lose 32 = .ok (.iadd, 1) := by decide +kernel
theorem dX8_lose_33 : decode cX8_lose 33 = .ok (.istore_n 2, 1) := by decide +kernel
theorem dX8_lose_34 : decode cX8_lose 34 = .ok (.aload_n 0, 1) := by decide +kernel
theorem dX8_lose_35 : decode cX8_lose 35 = .ok (.iconst 4, 1) := by decide +kernel
theorem dX8_lose_36 : decode cX8_lose 36 = .ok (.iload_n 3, 1) := by decide +kernel
theorem dX8_lose_37 : decode cX8_lose 37 = .ok (.aload_n 0, 1) := by decide +kernel
theorem dX8_lose_38 : decode cX8_lose 38 = .ok (.getfield 64, 3) := by decide +kernel
theorem dX8_lose_41 : decode cX8_lose 41 = .ok (.bipush 6, 2) := by decide +kernel
theorem dX8_lose_43 : decode cX8_lose 43 = .ok (.iload_n 1, 1) := by decide +kernel
theorem dX8_lose_44 : decode cX8_lose 44 = .ok (.imul, 1) := by decide +kernel
theorem dX8_lose_45 : decode cX8_lose 45 = .ok (.iload_n 3, 1) := by decide +kernel
theorem dX8_lose_46 : decode cX8_lose 46 = .ok (.iadd, 1) := by decide +kernel
theorem dX8_lose_47 : decode cX8_lose 47 = .ok (.iaload, 1) := by decide +kernel
theorem dX8_lose_48 : decode cX8_lose 48 = .ok (.invokevirtual 134, 3) := by decide +kernel
theorem dX8_lose_51 : decode cX8_lose 51 = .ok (.aload_n 0, 1) := by decide +kernel
theorem dX8_lose_52 : decode cX8_lose 52 = .ok (.getfield 64, 3) := by decide +kernel
theorem dX8_lose_55 : decode cX8_lose 55 = .ok (.bipush 6, 2) := by decide +kernel
theorem dX8_lose_57 : decode cX8_lose 57 = .ok (.iload_n 1, 1) := by decide +kernel
theorem dX8_lose_58 : decode cX8_lose 58 = .ok (.imul, 1) := by decide +kernel
theorem dX8_lose_59 : decode cX8_lose 59 = .ok (.iload_n 3, 1) := by decide +kernel
theorem dX8_lose_60 : decode cX8_lose 60 = .ok (.iadd, 1) := by decide +kernel
theorem dX8_lose_61 : decode cX8_lose 61 = .ok (.iconst 0, 1) := by decide +kernel
theorem dX8_lose_62 : decode cX8_lose 62 = .ok (.iastore, 1) := by decide +kernel
theorem dX8_lose_63 : decode cX8_lose 63 = .ok (.iinc 3 1, 3) := by decide +kernel
theorem dX8_lose_66 : decode cX8_lose 66 = .ok (.goto (-52), 3) := by decide +kernel
theorem dX8_lose_69 : decode cX8_lose 69 = .ok (.iconst 0, 1) := by decide +kernel
theorem dX8_lose_70 : decode cX8_lose 70 = .ok (.istore_n 3, 1) := by decide +kernel
theorem dX8_lose_71 : decode cX8_lose 71 = .ok (.iload_n 3, 1) := by decide +kernel
theorem dX8_lose_72 : decode cX8_lose 72 = .ok (.aload_n 0, 1) := by decide +kernel
theorem dX8_lose_73 : decode cX8_lose 73 = .ok (.getfield 144, 3) := by decide +kernel
theorem dX8_lose_76 : decode cX8_lose 76 = .ok (.if_icmp .ge 60, 3) := by decide +kernel
theorem dX8_lose_79 : decode cX8_lose 79 = .ok (.aload_n 0, 1) := by decide +kernel
theorem dX8_lose_80 : decode cX8_lose 80 = .ok (.getfield 80, 3) := by decide +kernel
theorem dX8_lose_83 : decode cX8_lose 83 = .ok (.iload_n 3, 1) := by decide +kernel
theorem dX8_lose_84 : decode cX8_lose 84 = .ok (.iaload, 1) := by decide +kernel
theorem dX8_lose_85 : decode cX8_lose 85 = .ok (.sipush 2000, 3) := by decide +kernel
theorem dX8_lose_88 : decode cX8_lose 88 = .ok (.iload_n 1, 1) := by decide +kernel
theorem dX8_lose_89 : decode cX8_lose 89 = .ok (.iadd, 1) := by decide +kernel
theorem dX8_lose_90 : decode cX8_lose 90 = .ok (.if_icmp .eq 6, 3) := by decide +kernel
theorem dX8_lose_93 : decode cX8_lose 93 = .ok (.goto 37, 3) := by decide +kernel
theorem dX8_lose_96 : decode cX8_lose 96 = .ok (.aload_n 0, 1) := by decide +kernel
theorem dX8_lose_97 : decode cX8_lose 97 = .ok (.getfield 80, 3) := by decide +kernel
theorem dX8_lose_100 : decode cX8_lose 100 = .ok (.iload_n 3, 1) := by decide +kernel
theorem dX8_lose_101 : decode cX8_lose 101 = .ok (.sipush 1001, 3) := by decide +kernel
theorem dX8_lose_104 : decode cX8_lose 104 = .ok (.iastore, 1) := by decide +kernel
theorem dX8_lose_105 : decode cX8_lose 105 = .ok (.aload_n 0, 1) := by decide +kernel
theorem dX8_lose_106 : decode cX8_lose 106 = .ok (.getfield 74, 3) := by decide +kernel
theorem dX8_lose_109 : decode cX8_lose 109 = .ok (.iload_n 3, 1) := by decide +kernel
theorem dX8_lose_110 : decode cX8_lose 110 = .ok (.iaload, 1) := by decide +kernel
theorem dX8_lose_111 : decode cX8_lose 111 = .ok (.iconst 1, 1) := by decide +kernel
theorem dX8_lose_112 : decode cX8_lose 112 = .ok (.if_icmp .ne 18, 3) := by decide +kernel
theorem dX8_lose_115 : decode cX8_lose 115 = .ok (.aload_n 0, 1) := by decide +kernel
theorem dX8_lose_116 : decode cX8_lose 116 = .ok (.dup, 1) := by decide +kernel
theorem dX8_lose_117 : decode cX8_lose 117 = .ok (.getfield 156, 3) := by decide +kernel
theorem dX8_lose_120 : decode cX8_lose 120 = .ok (.aload_n 0, 1) := by decide +kernel
theorem dX8_lose_121 : decode cX8_lose 121 = .ok (.getfield 86, 3) := by decide +kernel
theorem dX8_lose_124 : decode cX8_lose 124 = .ok (.iload_n 3, 1) := by decide +kernel
theorem dX8_lose_125 : decode cX8_lose 125 = .ok (.iaload, 1) := by decide +kernel
theorem dX8_lose_126 : decode cX8_lose 126 = .ok (.iadd, 1) := by decide +kernel
theorem dX8_lose_127 : decode cX8_lose 127 = .ok (.putfield 156, 3) := by decide +kernel
theorem dX8_lose_130 : decode cX8_lose 130 = .ok (.iinc 3 1, 3) := by decide +kernel
theorem dX8_lose_133 : decode cX8_lose 133 = .ok (.goto (-62), 3) := by decide +kernel
theorem dX8_lose_136 : decode cX8_lose 136 = .ok (.aload_n 0, 1) := by decide +kernel
theorem dX8_lose_137 : decode cX8_lose 137 = .ok (.getfield 52, 3) := by decide +kernel
theorem dX8_lose_140 : decode cX8_lose 140 = .ok (.iload_n 1, 1) := by decide +kernel
theorem dX8_lose_141 : decode cX8_lose 141 = .ok (.iconst 2, 1) := by decide +kernel
theorem dX8_lose_142 : decode cX8_lose 142 = .ok (.iastore, 1) := by decide +kernel
theorem dX8_lose_143 : decode cX8_lose 143 = .ok (.iload_n 2, 1) := by decide +kernel
theorem dX8_lose_144 : decode cX8_lose 144 = .ok (.ireturn, 1) := by decide +kernel
set_option maxRecDepth 20000 in
set_option maxRecDepth 100000 in
theorem ggX8_spoil_X8_isAway : GoodIn wsX8_spoil wsX8_isAway := goodIn_r _ [6, 7, 8, 9, 10, 5, 11, 12, 13, 14, 15, 24, 25, 26, 27, 28, 29, 30, 31, 32, 33, 34, 35, 36, 37, 38, 39, 40, 41, 42, 43, 44, 45, 46, 47, 48, 49, 50, 51, 52, 53, 54, 55, 56, 57, 58, 59, 60] rfl (by decide +kernel)
set_option maxRecDepth 20000 in
theorem gX8_spoil_X8_isAway : GoodIn wsX8_spoil (wsV RX8 153 RX8 yX8_isAway wsX8_isAway) := goodIn_app (goodIn_of _ (by decide +kernel)) ggX8_spoil_X8_isAway
set_option maxRecDepth 20000 in
set_option maxRecDepth 100000 in
theorem ggX8_spoil_X8_isWare : GoodIn wsX8_spoil wsX8_isWare := goodIn_r _ [18, 13, 14, 5, 15] rfl (by decide +kernel)
set_option maxRecDepth 20000 in
theorem gX8_spoil_X8_isWare : GoodIn wsX8_spoil (va_wsS RX8 127 yX8_isWare wsX8_isWare) := goodIn_app (goodIn_of _ (by decide +kernel)) ggX8_spoil_X8_isWare
set_option maxRecDepth 20000 in
set_option maxRecDepth 100000 in
theorem ggX8_spoil_X8_in : GoodIn wsX8_spoil wsX8_in := goodIn_r _ [15] rfl (by decide +kernel)
set_option maxRecDepth 20000 in
theorem gX8_spoil_X8_in : GoodIn wsX8_spoil (va_wsS RX8 108 yX8_in wsX8_in) := goodIn_app (goodIn_of _ (by decide +kernel)) ggX8_spoil_X8_in
set_option maxRecDepth 20000 in
set_option maxRecDepth 100000 in
theorem ggX8_spoil_X8_sums : GoodIn wsX8_spoil wsX8_sums := goodIn_r _ [22, 23, 24, 25, 26, 27, 28, 29, 30, 31, 32, 33, 34, 35, 36, 37, 38, 39, 40, 41, 42, 43, 44, 45, 46, 47, 48, 49, 50, 51, 52, 53, 54, 55, 56, 57, 58, 59, 60] rfl (by decide +kernel)
set_option maxRecDepth 20000 in
theorem gX8_spoil_X8_sums : GoodIn wsX8_spoil (wsV RX8 134 RX8 yX8_sums wsX8_sums) := goodIn_app (goodIn_of _ (by decide +kernel)) ggX8_spoil_X8_sums
theorem dX8_spoil_0 : decode cX8_spoil 0 = .ok (.aload_n 0, 1) := by decide +kernel
theorem dX8_spoil_1 : decode cX8_spoil 1 = .ok (.iload_n 1, 1) := by decide +kernel
theorem dX8_spoil_2 : decode cX8_spoil 2 = .ok (.invokevirtual 153, 3) := by decide +kernel
theorem dX8_spoil_5 : decode cX8_spoil 5 = .ok (.ifCond .eq 29, 3) := by decide +kernel
theorem dX8_spoil_8 : decode cX8_spoil 8 = .ok (.iload_n 2, 1) := by decide +kernel
theorem dX8_spoil_9 : decode cX8_spoil 9 = .ok (.invokestatic 127, 3) := by decide +kernel
theorem dX8_spoil_12 : decode cX8_spoil 12 = .ok (.ifCond .eq 22, 3) := by decide +kernel
theorem dX8_spoil_15 : decode cX8_spoil 15 = .ok (.iload_n 3, 1) := by decide +kernel
theorem dX8_spoil_16 : decode cX8_spoil 16 = .ok (.iconst 1, 1) := by decide +kernel
theorem dX8_spoil_17 : decode cX8_spoil 17 = .ok (.aload_n 0, 1) := by decide +kernel
theorem dX8_spoil_18 : decode cX8_spoil 18 = .ok (.getfield 64, 3) := by decide +kernel
theorem dX8_spoil_21 : decode cX8_spoil 21 = .ok (.bipush 6, 2) := by decide +kernel
theorem dX8_spoil_23 : decode cX8_spoil 23 = .ok (.iload_n 1, 1) := by decide +kernel
theorem dX8_spoil_24 : decode cX8_spoil 24 = .ok (.imul, 1) := by decide +kernel
theorem dX8_spoil_25 : decode cX8_spoil 25 = .ok (.iload_n 2, 1) := by decide +kernel
theorem dX8_spoil_26 : decode cX8_spoil 26 = .ok (.iadd, 1) := by decide +kernel
theorem dX8_spoil_27 : decode cX8_spoil 27 = .ok (.iaload, 1) := by decide +kernel
theorem dX8_spoil_28 : decode cX8_spoil 28 = .ok (.invokestatic 108, 3) := by decide +kernel
theorem dX8_spoil_31 : decode cX8_spoil 31 = .ok (.ifCond .ne 5, 3) := by decide +kernel
theorem dX8_spoil_34 : decode cX8_spoil 34 = .ok (.iconst 0, 1) := by decide +kernel
theorem dX8_spoil_35 : decode cX8_spoil 35 = .ok (.ireturn, 1) := by decide +kernel
theorem dX8_spoil_36 : decode cX8_spoil 36 = .ok (.aload_n 0, 1) := by decide +kernel
theorem dX8_spoil_37 : decode cX8_spoil 37 = .ok (.getfield 64, 3) := by decide +kernel
theorem dX8_spoil_40 : decode cX8_spoil 40 = .ok (.bipush 6, 2) := by decide +kernel
theorem dX8_spoil_42 : decode cX8_spoil 42 = .ok (.iload_n 1, 1) := by decide +kernel
theorem dX8_spoil_43 : decode cX8_spoil 43 = .ok (.imul, 1) := by decide +kernel
theorem dX8_spoil_44 : decode cX8_spoil 44 = .ok (.iload_n 2, 1) := by decide +kernel
theorem dX8_spoil_45 : decode cX8_spoil 45 = .ok (.iadd, 1) := by decide +kernel
theorem dX8_spoil_46 : decode cX8_spoil 46 = .ok (.dup2, 1) := by decide +kernel
theorem dX8_spoil_47 : decode cX8_spoil 47 = .ok (.iaload, 1) := by decide +kernel
theorem dX8_spoil_48 : decode cX8_spoil 48 = .ok (.iload_n 3, 1) := by decide +kernel
theorem dX8_spoil_49 : decode cX8_spoil 49 = .ok (.isub, 1) := by decide +kernel
theorem dX8_spoil_50 : decode cX8_spoil 50 = .ok (.iastore, 1) := by decide +kernel
theorem dX8_spoil_51 : decode cX8_spoil 51 = .ok (.aload_n 0, 1) := by decide +kernel
theorem dX8_spoil_52 : decode cX8_spoil 52 = .ok (.iconst 5, 1) := by decide +kernel
theorem dX8_spoil_53 : decode cX8_spoil 53 = .ok (.iload_n 2, 1) := by decide +kernel
theorem dX8_spoil_54 : decode cX8_spoil 54 = .ok (.iload_n 3, 1) := by decide +kernel
theorem dX8_spoil_55 : decode cX8_spoil 55 = .ok (.invokevirtual 134, 3) := by decide +kernel
theorem dX8_spoil_58 : decode cX8_spoil 58 = .ok (.iconst 1, 1) := by decide +kernel
theorem dX8_spoil_59 : decode cX8_spoil 59 = .ok (.ireturn, 1) := by decide +kernel
set_option maxRecDepth 20000 in
set_option maxRecDepth 100000 in
theorem ggX8_comes_X8_reads : GoodIn wsX8_comes wsX8_reads := goodIn_r _ [16, 11, 10, 17, 18, 19, 20, 21, 22, 23, 24, 25, 26, 27, 28, 29, 30, 31, 32, 33, 34, 35, 36, 37, 38, 39, 40, 41, 42, 43, 44, 45, 46, 47, 48, 49, 50, 51, 52, 53, 54, 55, 56, 57, 58, 59] rfl (by decide +kernel)
set_option maxRecDepth 20000 in
theorem gX8_comes_X8_reads : GoodIn wsX8_comes (wsV RX8 159 RX8 yX8_reads wsX8_reads) := goodIn_app (goodIn_of _ (by decide +kernel)) ggX8_comes_X8_reads
theorem dX8_comes_0 : decode cX8_comes 0 = .ok (.aload_n 0, 1) := by decide +kernel
theorem dX8_comes_1 : decode cX8_comes 1 = .ok (.getfield 52, 3) := by decide +kernel
theorem dX8_comes_4 : decode cX8_comes 4 = .ok (.iload_n 1, 1) := by decide +kernel
theorem dX8_comes_5 : decode cX8_comes 5 = .ok (.iconst 1, 1) := by decide +kernel
theorem dX8_comes_6 : decode cX8_comes 6 = .ok (.iastore, 1) := by decide +kernel
theorem dX8_comes_7 : decode cX8_comes 7 = .ok (.aload_n 0, 1) := by decide +kernel
theorem dX8_comes_8 : decode cX8_comes 8 = .ok (.getfield 58, 3) := by decide +kernel
theorem dX8_comes_11 : decode cX8_comes 11 = .ok (.iload_n 1, 1) := by decide +kernel
theorem dX8_comes_12 : decode cX8_comes 12 = .ok (.aload_n 0, 1) := by decide +kernel
theorem dX8_comes_13 : decode cX8_comes 13 = .ok (.getfield 137, 3) := by decide +kernel
theorem dX8_comes_16 : decode cX8_comes 16 = .ok (.iastore, 1) := by decide +kernel
theorem dX8_comes_17 : decode cX8_comes 17 = .ok (.iconst 0, 1) := by decide +kernel
theorem dX8_comes_18 : decode cX8_comes 18 = .ok (.istore_n 2, 1) := by decide +kernel
theorem dX8_comes_19 : decode cX8_comes 19 = .ok (.iload_n 2, 1) := by decide +kernel
theorem dX8_comes_20 : decode cX8_comes 20 = .ok (.bipush 6, 2) := by decide +kernel
theorem dX8_comes_22 : decode cX8_comes 22 = .ok (.if_icmp .ge 70, 3) := by decide +kernel
theorem dX8_comes_25 : decode cX8_comes 25 = .ok (.bipush 6, 2) := by decide +kernel
theorem dX8_comes_27 : decode cX8_comes 27 = .ok (.iload_n 1, 1) := by decide +kernel
theorem dX8_comes_28 : decode cX8_comes 28 = .ok (.imul, 1) := by decide +kernel
theorem dX8_comes_29 : decode cX8_comes 29 = .ok (.iload_n 2, 1) := by decide +kernel
theorem dX8_comes_30 : decode cX8_comes 30 = .ok (.iadd, 1) := by decide +kernel
theorem dX8_comes_31 : decode cX8_comes 31 = .ok (.istore_n 3, 1) := by decide +kernel
theorem dX8_comes_32 : decode cX8_comes 32 = .ok (.aload_n 0, 1) := by decide +kernel
theorem dX8_comes_33 : decode cX8_comes 33 = .ok (.getfield 64, 3) := by decide +kernel
theorem dX8_comes_36 : decode cX8_comes 36 = .ok (.iload_n 3, 1) := by decide +kernel
theorem dX8_comes_37 : decode cX8_comes 37 = .ok (.iaload, 1) := by decide +kernel
theorem dX8_comes_38 : decode cX8_comes 38 = .ok (.aload_n 0, 1) := by decide +kernel
theorem dX8_comes_39 : decode cX8_comes 39 = .ok (.getfield 67, 3) := by decide +kernel
theorem dX8_comes_42 : decode cX8_comes 42 = .ok (.iload_n 3, 1) := by decide +kernel
theorem dX8_comes_43 : decode cX8_comes 43 = .ok (.iaload, 1) := by decide +kernel
theorem dX8_comes_44 : decode cX8_comes 44 = .ok (.if_icmp .eq 10, 3) := by decide +kernel
theorem dX8_comes_47 : decode cX8_comes 47 = .ok (.aload_n 0, 1) := by decide +kernel
theorem dX8_comes_48 : decode cX8_comes 48 = .ok (.getfield 70, 3) := by decide +kernel
theorem dX8_comes_51 : decode cX8_comes 51 = .ok (.iload_n 1, 1) := by decide +kernel
theorem dX8_comes_52 : decode cX8_comes 52 = .ok (.iconst 1, 1) := by decide +kernel
theorem dX8_comes_53 : decode cX8_comes 53 = .ok (.bastore, 1) := by decide +kernel
theorem dX8_comes_54 : decode cX8_comes 54 = .ok (.aload_n 0, 1) := by decide +kernel
theorem dX8_comes_55 : decode cX8_comes 55 = .ok (.getfield 9, 3) := by decide +kernel
theorem dX8_comes_58 : decode cX8_comes 58 = .ok (.bipush 6, 2) := by decide +kernel
theorem dX8_comes_60 : decode cX8_comes 60 = .ok (.aload_n 0, 1) := by decide +kernel
theorem dX8_comes_61 : decode cX8_comes 61 = .ok (.getfield 43, 3) := by decide +kernel
theorem dX8_comes_64 : decode cX8_comes 64 = .ok (.iload_n 1, 1) := by decide +kernel
theorem dX8_comes_65 : decode cX8_comes 65 = .ok (.iaload, 1) := by decide +kernel
theorem dX8_comes_66 : decode cX8_comes 66 = .ok (.imul, 1) := by decide +kernel
theorem dX8_comes_67 : decode cX8_comes 67 = .ok (.iload_n 2, 1) := by decide +kernel
theorem dX8_comes_68 : decode cX8_comes 68 = .ok (.iadd, 1) := by decide +kernel
theorem dX8_comes_69 : decode cX8_comes 69 = .ok (.dup2, 1) := by decide +kernel
theorem dX8_comes_70 : decode cX8_comes 70 = .ok (.iaload, 1) := by decide +kernel
theorem dX8_comes_71 : decode cX8_comes 71 = .ok (.aload_n 0, 1) := by decide +kernel
theorem dX8_comes_72 : decode cX8_comes 72 = .ok (.getfield 64, 3) := by decide +kernel
theorem dX8_comes_75 : decode cX8_comes 75 = .ok (.iload_n 3, 1) := by decide +kernel
theorem dX8_comes_76 : decode cX8_comes 76 = .ok (.iaload, 1) := by decide +kernel
theorem dX8_comes_77 : decode cX8_comes 77 = .ok (.iadd, 1) := by decide +kernel
theorem dX8_comes_78 : decode cX8_comes 78 = .ok (.iastore, 1) := by decide +kernel
theorem dX8_comes_79 : decode cX8_comes 79 = .ok (.aload_n 0, 1) := by decide +kernel
theorem dX8_comes_80 : decode cX8_comes 80 = .ok (.getfield 64, 3) := by decide +kernel
theorem dX8_comes_83 : decode cX8_comes 83 = .ok (.iload_n 3, 1) := by decide +kernel
theorem dX8_comes_84 : decode cX8_comes 84 = .ok (.iconst 0, 1) := by decide +kernel
theorem dX8_comes_85 : decode cX8_comes 85 = .ok (.iastore, 1) := by decide +kernel
theorem dX8_comes_86 : decode cX8_comes 86 = .ok (.iinc 2 1, 3) := by decide +kernel
theorem dX8_comes_89 : decode cX8_comes 89 = .ok (.goto (-70), 3) := by decide +kernel
theorem dX8_comes_92 : decode cX8_comes 92 = .ok (.iconst 0, 1) := by decide +kernel
theorem dX8_comes_93 : decode cX8_comes 93 = .ok (.istore_n 2, 1) := by decide +kernel
theorem dX8_comes_94 : decode cX8_comes 94 = .ok (.iload_n 2, 1) := by decide +kernel
theorem dX8_comes_95 : decode cX8_comes 95 = .ok (.aload_n 0, 1) := by decide +kernel
theorem dX8_comes_96 : decode cX8_comes 96 = .ok (.getfield 144, 3) := by decide +kernel
theorem dX8_comes_99 : decode cX8_comes 99 = .ok (.if_icmp .ge 61, 3) := by decide +kernel
theorem dX8_comes_102 : decode cX8_comes 102 = .ok (.aload_n 0, 1) := by decide +kernel
theorem dX8_comes_103 : decode cX8_comes 103 = .ok (.getfield 80, 3) := by decide +kernel
theorem dX8_comes_106 : decode cX8_comes 106 = .ok (.iload_n 2, 1) := by decide +kernel
theorem dX8_comes_107 : decode cX8_comes 107 = .ok (.iaload, 1) := by decide +kernel
theorem dX8_comes_108 : decode cX8_comes 108 = .ok (.sipush 2000, 3) := by decide +kernel
theorem dX8_comes_111 : decode cX8_comes 111 = .ok (.iload_n 1, 1) := by decide +kernel
theorem dX8_comes_112 : decode cX8_comes 112 = .ok (.iadd, 1) := by decide +kernel
theorem dX8_comes_113 : decode cX8_comes 113 = .ok (.if_icmp .eq 6, 3) := by decide +kernel
theorem dX8_comes_116 : decode cX8_comes 116 = .ok (.goto 38, 3) := by decide +kernel
theorem dX8_comes_119 : decode cX8_comes 119 = .ok (.aload_n 0, 1) := by decide +kernel
theorem dX8_comes_120 : decode cX8_comes 120 = .ok (.getfield 77, 3) := by decide +kernel
theorem dX8_comes_123 : decode cX8_comes 123 = .ok (.iload_n 2, 1) := by decide +kernel
theorem dX8_comes_124 : decode cX8_comes 124 = .ok (.iaload, 1) := by decide +kernel
theorem dX8_comes_125 : decode cX8_comes 125 = .ok (.aload_n 0, 1) := by decide +kernel
theorem dX8_comes_126 : decode cX8_comes 126 = .ok (.getfield 43, 3) := by decide +kernel
theorem dX8_comes_129 : decode cX8_comes 129 = .ok (.iload_n 1, 1) := by decide +kernel
theorem dX8_comes_130 : decode cX8_comes 130 = .ok (.iaload, 1) := by decide +kernel
theorem dX8_comes_131 : decode cX8_comes 131 = .ok (.if_icmp .ne 11, 3) := by decide +kernel
theorem dX8_comes_134 : decode cX8_comes 134 = .ok (.aload_n 0, 1) := by decide +kernel
theorem dX8_comes_135 : decode cX8_comes 135 = .ok (.iload_n 2, 1) := by decide +kernel
theorem dX8_comes_136 : decode cX8_comes 136 = .ok (.invokevirtual 159, 3) := by decide +kernel
theorem dX8_comes_139 : decode cX8_comes 139 = .ok (.goto 15, 3) := by decide +kernel
theorem dX8_comes_142 : decode cX8_comes 142 = .ok (.aload_n 0, 1) := by decide +kernel
theorem dX8_comes_143 : decode cX8_comes 143 = .ok (.getfield 80, 3) := by decide +kernel
theorem dX8_comes_146 : decode cX8_comes 146 = .ok (.iload_n 2, 1) := by decide +kernel
theorem dX8_comes_147 : decode cX8_comes 147 = .ok (.aload_n 0, 1) := by decide +kernel
theorem dX8_comes_148 : decode cX8_comes 148 = .ok (.getfield 43, 3) := by decide +kernel
theorem dX8_comes_151 : decode cX8_comes 151 = .ok (.iload_n 1, 1) := by decide +kernel
theorem dX8_comes_152 : decode cX8_comes 152 = .ok (.iaload, 1) := by decide +kernel
theorem dX8_comes_153 : decode cX8_comes 153 = .ok (.iastore, 1) := by decide +kernel
theorem dX8_comes_154 : decode cX8_comes 154 = .ok (.iinc 2 1, 3) := by decide +kernel
theorem dX8_comes_157 : decode cX8_comes 157 = .ok (.goto (-63), 3) := by decide +kernel
theorem dX8_comes_160 : decode cX8_comes 160 = .ok (.return_, 1) := by decide +kernel
theorem dX8_reads_0 : decode cX8_reads 0 = .ok (.aload_n 0, 1) := by decide +kernel
theorem dX8_reads_1 : decode cX8_reads 1 = .ok (.getfield 77, 3) := by decide +kernel
theorem dX8_reads_4 : decode cX8_reads 4 = .ok (.iload_n 1, 1) := by decide +kernel
theorem dX8_reads_5 : decode cX8_reads 5 = .ok (.iaload, 1) := by decide +kernel
theorem dX8_reads_6 : decode cX8_reads 6 = .ok (.istore_n 2, 1) := by decide +kernel
theorem dX8_reads_7 : decode cX8_reads 7 = .ok (.aload_n 0, 1) := by decide +kernel
theorem dX8_reads_8 : decode cX8_reads 8 = .ok (.getfield 80, 3) := by decide +kernel
theorem dX8_reads_11 : decode cX8_reads 11 = .ok (.iload_n 1, 1) := by decide +kernel
theorem dX8_reads_12 : decode cX8_reads 12 = .ok (.sipush 1000, 3) := by decide +kernel
theorem dX8_reads_15 : decode cX8_reads 15 = .ok (.iastore, 1) := by decide +kernel
theorem dX8_reads_16 : decode cX8_reads 16 = .ok (.aload_n 0, 1) := by decide +kernel
theorem dX8_reads_17 : decode cX8_reads 17 = .ok (.getfield 74, 3) := by decide +kernel
theorem dX8_reads_20 : decode cX8_reads 20 = .ok (.iload_n 1, 1) := by decide +kernel
theorem dX8_reads_21 : decode cX8_reads 21 = .ok (.iaload, 1) := by decide +kernel
theorem dX8_reads_22 : decode cX8_reads 22 = .ok (.ifCond .ne 28, 3) := by decide +kernel
theorem dX8_reads_25 : decode cX8_reads 25 = .ok (.aload_n 0, 1) := by decide +kernel
theorem dX8_reads_26 : decode cX8_reads 26 = .ok (.getfield 13, 3) := by decide +kernel
theorem dX8_reads_29 : decode cX8_reads 29 = .ok (.bipush 6, 2) := by decide +kernel
theorem dX8_reads_31 : decode cX8_reads 31 = .ok (.iload_n 2, 1) := by decide +kernel
theorem dX8_reads_32 : decode cX8_reads 32 = .ok (.imul, 1) := by decide +kernel
theorem dX8_reads_33 : decode cX8_reads 33 = .ok (.aload_n 0, 1) := by decide +kernel
theorem dX8_reads_34 : decode cX8_reads 34 = .ok (.getfield 83, 3) := by decide +kernel
theorem dX8_reads_37 : decode cX8_reads 37 = .ok (.iload_n 1, 1) := by decide +kernel
theorem dX8_reads_38 : decode cX8_reads 38 = .ok (.iaload, 1) := by decide +kernel
theorem dX8_reads_39 : decode cX8_reads 39 = .ok (.iadd, 1) := by decide +kernel
theorem dX8_reads_40 : decode cX8_reads 40 = .ok (.aload_n 0, 1) := by decide +kernel
theorem dX8_reads_41 : decode cX8_reads 41 = .ok (.getfield 86, 3) := by decide +kernel
theorem dX8_reads_44 : decode cX8_reads 44 = .ok (.iload_n 1, 1) := by decide +kernel
theorem dX8_reads_45 : decode cX8_reads 45 = .ok (.iaload, 1) := by decide +kernel
theorem dX8_reads_46 : decode cX8_reads 46 = .ok (.iastore, 1) := by decide +kernel
theorem dX8_reads_47 : decode cX8_reads 47 = .ok (.goto 90, 3) := by decide +kernel
theorem dX8_reads_50 : decode cX8_reads 50 = .ok (.aload_n 0, 1) := by decide +kernel
theorem dX8_reads_51 : decode cX8_reads 51 = .ok (.getfield 74, 3) := by decide +kernel
theorem dX8_reads_54 : decode cX8_reads 54 = .ok (.iload_n 1, 1) := by decide +kernel
theorem dX8_reads_55 : decode cX8_reads 55 = .ok (.iaload, 1) := by decide +kernel
theorem dX8_reads_56 : decode cX8_reads 56 = .ok (.iconst 1, 1) := by decide +kernel
theorem dX8_reads_57 : decode cX8_reads 57 = .ok (.if_icmp .ne 31, 3) := by decide +kernel
theorem dX8_reads_60 : decode cX8_reads 60 = .ok (.aload_n 0, 1) := by decide +kernel
theorem dX8_reads_61 : decode cX8_reads 61 = .ok (.getfield 16, 3) := by decide +kernel
theorem dX8_reads_64 : decode cX8_reads 64 = .ok (.bipush 12, 2) := by decide +kernel
theorem dX8_reads_66 : decode cX8_reads 66 = .ok (.iload_n 2, 1) := by decide +kernel
theorem dX8_reads_67 : decode cX8_reads 67 = .ok (.imul, 1) := by decide +kernel
theorem dX8_reads_68 : decode cX8_reads 68 = .ok (.aload_n 0, 1) := by decide +kernel
theorem dX8_reads_69 : decode cX8_reads 69 = .ok (.getfield 83, 3) := by decide +kernel
theorem dX8_reads_72 : decode cX8_reads 72 = .ok (.iload_n 1, 1) := by decide +kernel
theorem dX8_reads_73 : decode cX8_reads 73 = .ok (.iaload, 1) := by decide +kernel
theorem dX8_reads_74 : decode cX8_reads 74 = .ok (.iadd, 1) := by decide +kernel
theorem dX8_reads_75 : decode cX8_reads 75 = .ok (.dup2, 1) := by decide +kernel
theorem dX8_reads_76 : decode cX8_reads 76 = .ok (.iaload, 1) := by decide +kernel
theorem dX8_reads_77 : decode cX8_reads 77 = .ok (.aload_n 0, 1) := by decide +kernel
theorem dX8_reads_78 : decode cX8_reads 78 = .ok (.getfield 86, 3) := by decide +kernel
theorem dX8_reads_81 : decode cX8_reads 81 = .ok (.iload_n 1, 1) := by decide +kernel
theorem dX8_reads_82 : decode cX8_reads 82 = .ok (.iaload, 1) := by decide +kernel
theorem dX8_reads_83 : decode cX8_reads 83 = .ok (.iadd, 1) := by decide +kernel
theorem dX8_reads_84 : decode cX8_reads 84 = .ok (.iastore, 1) := by decide +kernel
theorem dX8_reads_85 : decode cX8_reads 85 = .ok (.goto 52, 3) := by decide +kernel
theorem dX8_reads_88 : decode cX8_reads 88 = .ok (.bipush 8, 2) := by decide +kernel
theorem dX8_reads_90 : decode cX8_reads 90 = .ok (.iload_n 2, 1) := by decide +kernel
theorem dX8_reads_91 : decode cX8_reads 91 = .ok (.imul, 1) := by decide +kernel
theorem dX8_reads_92 : decode cX8_reads 92 = .ok (.aload_n 0, 1) := by decide +kernel
theorem dX8_reads_93 : decode cX8_reads 93 = .ok (.getfield 83, 3) := by decide +kernel
theorem dX8_reads_96 : decode cX8_reads 96 = .ok (.iload_n 1, 1) := by decide +kernel
theorem dX8_reads_97 : decode cX8_reads 97 = .ok (.iaload, 1) := by decide +kernel
theorem dX8_reads_98 : decode cX8_reads 98 = .ok (.iadd, 1) := by decide +kernel
theorem dX8_reads_99 : decode cX8_reads 99 = .ok (.istore_n 3, 1) := by decide +kernel
theorem dX8_reads_100 : decode cX8_reads 100 = .ok (.aload_n 0, 1) := by decide +kernel
theorem dX8_reads_101 : decode cX8_reads 101 = .ok (.getfield 92, 3) := by decide +kernel
theorem dX8_reads_104 : decode cX8_reads 104 = .ok (.iload_n 3, 1) := by decide +kernel
theorem dX8_reads_105 : decode cX8_reads 105 = .ok (.iaload, 1) := by decide +kernel
theorem dX8_reads_106 : decode cX8_reads 106 = .ok (.iconst (-1), 1) := by decide +kernel
theorem dX8_reads_107 : decode cX8_reads 107 = .ok (.if_icmp .eq 23, 3) := by decide +kernel
theorem dX8_reads_110 : decode cX8_reads 110 = .ok (.aload_n 0, 1) := by decide +kernel
theorem dX8_reads_111 : decode cX8_reads 111 = .ok (.getfield 86, 3) := by decide +kernel
theorem dX8_reads_114 : decode cX8_reads 114 = .ok (.iload_n 1, 1) := by decide +kernel
theorem dX8_reads_115 : decode cX8_reads 115 = .ok (.iaload, 1) := by decide +kernel
theorem dX8_reads_116 : decode cX8_reads 116 = .ok (.aload_n 0, 1) := by decide +kernel
theorem dX8_reads_117 : decode cX8_reads 117 = .ok (.getfield 86, 3) := by decide +kernel
theorem dX8_reads_120 : decode cX8_reads 120 = .ok (.aload_n 0, 1) := by decide +kernel
theorem dX8_reads_121 : decode cX8_reads 121 = .ok (.getfield 92, 3) := by decide +kernel
theorem dX8_reads_124 : decode cX8_reads 124 = .ok (.iload_n 3, 1) := by decide +kernel
theorem dX8_reads_125 : decode cX8_reads 125 = .ok (.iaload, 1) := by decide +kernel
theorem dX8_reads_126 : decode cX8_reads 126 = .ok (.iaload, 1) := by decide +kernel
theorem dX8_reads_127 : decode cX8_reads 127 = .ok (.if_icmp .lt 10, 3) := by decide +kernel
theorem dX8_reads_130 : decode cX8_reads 130 = .ok (.aload_n 0, 1) := by decide +kernel
theorem dX8_reads_131 : decode cX8_reads 131 = .ok (.getfield 92, 3) := by decide +kernel
theorem dX8_reads_134 : decode cX8_reads 134 = .ok (.iload_n 3, 1) := by decide +kernel
theorem dX8_reads_135 : decode cX8_reads 135 = .ok (.iload_n 1, 1) := by decide +kernel
theorem dX8_reads_136 : decode cX8_reads 136 = .ok (.iastore, 1) := by decide +kernel
theorem dX8_reads_137 : decode cX8_reads 137 = .ok (.return_, 1) := by decide +kernel
set_option maxRecDepth 20000 in
set_option maxRecDepth 100000 in
theorem ggX8_go_X8_in : GoodIn wsX8_go wsX8_in := goodIn_r _ [9] rfl (by decide +kernel)
set_option maxRecDepth 20000 in
theorem gX8_go_X8_in : GoodIn wsX8_go (va_wsS RX8 108 yX8_in wsX8_in) := goodIn_app (goodIn_of _ (by decide +kernel)) ggX8_go_X8_in
set_option maxRecDepth 20000 in
set_option maxRecDepth 100000 in
theorem ggX8_go_X8_isOpen : GoodIn wsX8_go wsX8_isOpen := goodIn_r _ [13, 14, 15, 6, 7, 8, 9, 39, 40, 41, 42, 43, 44, 45, 46, 47, 48, 49, 50, 51, 52, 53, 54, 55, 56, 57, 58, 59, 60, 61, 62, 63, 64, 65, 66, 67, 68, 69, 70, 71, 72, 73, 74, 75] rfl (by decide +kernel)
set_option maxRecDepth 20000 in
theorem gX8_go_X8_isOpen : GoodIn wsX8_go (wsV RX8 140 RX8 yX8_isOpen wsX8_isOpen) := goodIn_app (goodIn_of _ (by decide +kernel)) ggX8_go_X8_isOpen
set_option maxRecDepth 20000 in
set_option maxRecDepth 100000 in
theorem ggX8_go_X8_comes : GoodIn wsX8_go wsX8_comes := goodIn_r _ [19, 3, 20, 1, 21, 22, 23, 24, 25, 26, 27, 28, 29, 30, 31, 8, 32, 33, 34, 35, 36, 37, 38, 39, 40, 41, 42, 43, 44, 45, 46, 47, 48, 49, 50, 51, 52, 53, 54, 55, 56, 57, 58, 59, 60, 61, 62, 63, 64, 65, 66, 67, 68, 69, 70, 71, 72, 73, 74, 75] rfl (by decide +kernel)
set_option maxRecDepth 20000 in
theorem gX8_go_X8_comes : GoodIn wsX8_go (wsV RX8 163 RX8 yX8_comes wsX8_comes) := goodIn_app (goodIn_of _ (by decide +kernel)) ggX8_go_X8_comes
theorem dX8_go_0 : decode cX8_go 0 = .ok (.iload_n 1, 1) := by decide +kernel
theorem dX8_go_1 : decode cX8_go 1 = .ok (.iconst 0, 1) := by decide +kernel
theorem dX8_go_2 : decode cX8_go 2 = .ok (.sipush 400, 3) := by decide +kernel
theorem dX8_go_5 : decode cX8_go 5 = .ok (.invokestatic 108, 3) := by decide +kernel
theorem dX8_go_8 : decode cX8_go 8 = .ok (.ifCond .ne 5, 3) := by decide +kernel
theorem dX8_go_11 : decode cX8_go 11 = .ok (.iconst (-1), 1) := by decide +kernel
theorem dX8_go_12 : decode cX8_go 12 = .ok (.ireturn, 1) := by decide +kernel
theorem dX8_go_13 : decode cX8_go 13 = .ok (.iconst 0, 1) := by decide +kernel
theorem dX8_go_14 : decode cX8_go 14 = .ok (.istore_n 2, 1) := by decide +kernel
theorem dX8_go_15 : decode cX8_go 15 = .ok (.iload_n 2, 1) := by decide +kernel
theorem dX8_go_16 : decode cX8_go 16 = .ok (.iload_n 1, 1) := by decide +kernel
theorem dX8_go_17 : decode cX8_go 17 = .ok (.if_icmp .ge 98, 3) := by decide +kernel
theorem dX8_go_20 : decode cX8_go 20 = .ok (.aload_n 0, 1) := by decide +kernel
theorem dX8_go_21 : decode cX8_go 21 = .ok (.getfield 137, 3) := by decide +kernel
theorem dX8_go_24 : decode cX8_go 24 = .ok (.sipush 3000, 3) := by decide +kernel
theorem dX8_go_27 : decode cX8_go 27 = .ok (.if_icmp .ge 88, 3) := by decide +kernel
theorem dX8_go_30 : decode cX8_go 30 = .ok (.iconst 0, 1) := by decide +kernel
theorem dX8_go_31 : decode cX8_go 31 = .ok (.istore_n 3, 1) := by decide +kernel
theorem dX8_go_32 : decode cX8_go 32 = .ok (.iload_n 3, 1) := by decide +kernel
theorem dX8_go_33 : decode cX8_go 33 = .ok (.aload_n 0, 1) := by decide +kernel
theorem dX8_go_34 : decode cX8_go 34 = .ok (.getfield 112, 3) := by decide +kernel
theorem dX8_go_37 : decode cX8_go 37 = .ok (.if_icmp .ge 62, 3) := by decide +kernel
theorem dX8_go_40 : decode cX8_go 40 = .ok (.aload_n 0, 1) := by decide +kernel
theorem dX8_go_41 : decode cX8_go 41 = .ok (.getfield 52, 3) := by decide +kernel
theorem dX8_go_44 : decode cX8_go 44 = .ok (.iload_n 3, 1) := by decide +kernel
theorem dX8_go_45 : decode cX8_go 45 = .ok (.iaload, 1) := by decide +kernel
theorem dX8_go_46 : decode cX8_go 46 = .ok (.ifCond .ne 47, 3) := by decide +kernel
theorem dX8_go_49 : decode cX8_go 49 = .ok (.aload_n 0, 1) := by decide +kernel
theorem dX8_go_50 : decode cX8_go 50 = .ok (.aload_n 0, 1) := by decide +kernel
theorem dX8_go_51 : decode cX8_go 51 = .ok (.getfield 46, 3) := by decide +kernel
theorem dX8_go_54 : decode cX8_go 54 = .ok (.iload_n 3, 1) := by decide +kernel
theorem dX8_go_55 : decode cX8_go 55 = .ok (.iaload, 1) := by decide +kernel
theorem dX8_go_56 : decode cX8_go 56 = .ok (.aload_n 0, 1) := by decide +kernel
theorem dX8_go_57 : decode cX8_go 57 = .ok (.getfield 137, 3) := by decide +kernel
theorem dX8_go_60 : decode cX8_go 60 = .ok (.invokevirtual 140, 3) := by decide +kernel
theorem dX8_go_63 : decode cX8_go 63 = .ok (.ifCond .ne 6, 3) := by decide +kernel
theorem dX8_go_66 : decode cX8_go 66 = .ok (.goto 27, 3) := by decide +kernel
theorem dX8_go_69 : decode cX8_go 69 = .ok (.aload_n 0, 1) := by decide +kernel
theorem dX8_go_70 : decode cX8_go 70 = .ok (.getfield 49, 3) := by decide +kernel
theorem dX8_go_73 : decode cX8_go 73 = .ok (.iload_n 3, 1) := by decide +kernel
theorem dX8_go_74 : decode cX8_go 74 = .ok (.dup2, 1) := by decide +kernel
theorem dX8_go_75 : decode cX8_go 75 = .ok (.iaload, 1) := by decide +kernel
theorem dX8_go_76 : decode cX8_go 76 = .ok (.iconst 1, 1) := by decide +kernel
theorem dX8_go_77 : decode cX8_go 77 = .ok (.isub, 1) := by decide +kernel
theorem dX8_go_78 : decode cX8_go 78 = .ok (.iastore, 1) := by decide +kernel
theorem dX8_go_79 : decode cX8_go 79 = .ok (.aload_n 0, 1) := by decide +kernel
theorem dX8_go_80 : decode cX8_go 80 = .ok (.getfield 49, 3) := by decide +kernel
theorem dX8_go_83 : decode cX8_go 83 = .ok (.iload_n 3, 1) := by decide +kernel
theorem dX8_go_84 : decode cX8_go 84 = .ok (.iaload, 1) := by decide +kernel
theorem dX8_go_85 : decode cX8_go 85 = .ok (.ifCond .ne 8, 3) := by decide +kernel
theorem dX8_go_88 : decode cX8_go 88 = .ok (.aload_n 0, 1) := by decide +kernel
theorem dX8_go_89 : decode cX8_go 89 = .ok (.iload_n 3, 1) := by decide +kernel
theorem dX8_go_90 : decode cX8_go 90 = .ok (.invokevirtual 163, 3) := by decide +kernel
theorem dX8_go_93 : decode cX8_go 93 = .ok (.iinc 3 1, 3) := by decide +kernel
theorem dX8_go_96 : decode cX8_go 96 = .ok (.goto (-64), 3) := by decide +kernel
theorem dX8_go_99 : decode cX8_go 99 = .ok (.aload_n 0, 1) := by decide +kernel
theorem dX8_go_100 : decode cX8_go 100 = .ok (.dup, 1) := by decide +kernel
theorem dX8_go_101 : decode cX8_go 101 = .ok (.getfield 137, 3) := by decide +kernel
theorem dX8_go_104 : decode cX8_go 104 = .ok (.iconst 1, 1) := by decide +kernel
theorem dX8_go_105 : decode cX8_go 105 = .ok (.iadd, 1) := by decide +kernel
theorem dX8_go_106 : decode cX8_go 106 = .ok (.putfield 137, 3) := by decide +kernel
theorem dX8_go_109 : decode cX8_go 109 = .ok (.iinc 2 1, 3) := by decide +kernel
theorem dX8_go_112 : decode cX8_go 112 = .ok (.goto (-97), 3) := by decide +kernel
theorem dX8_go_115 : decode cX8_go 115 = .ok (.aload_n 0, 1) := by decide +kernel
theorem dX8_go_116 : decode cX8_go 116 = .ok (.getfield 137, 3) := by decide +kernel
theorem dX8_go_119 : decode cX8_go 119 = .ok (.ireturn, 1) := by decide +kernel
set_option maxRecDepth 20000 in
set_option maxRecDepth 100000 in
theorem ggX8_isDeal_X8_isPost : GoodIn wsX8_isDeal wsX8_isPost := goodIn_r _ [5, 6, 7, 8, 4, 9, 13, 14, 15, 16, 17, 18, 19, 20, 21, 22, 23, 24, 25, 26, 27, 28, 29, 30, 31, 32, 33, 34, 35, 36, 37, 38, 39, 40, 41, 42, 43, 44, 45, 46, 47, 48, 49] rfl (by decide +kernel)
set_option maxRecDepth 20000 in
theorem gX8_isDeal_X8_isPost : GoodIn wsX8_isDeal (wsV RX8 119 RX8 yX8_isPost wsX8_isPost) := goodIn_app (goodIn_of _ (by decide +kernel)) ggX8_isDeal_X8_isPost
set_option maxRecDepth 20000 in
set_option maxRecDepth 100000 in
theorem ggX8_isDeal_X8_in : GoodIn wsX8_isDeal wsX8_in := goodIn_r _ [9] rfl (by decide +kernel)
set_option maxRecDepth 20000 in
theorem gX8_isDeal_X8_in : GoodIn wsX8_isDeal (va_wsS RX8 108 yX8_in wsX8_in) := goodIn_app (goodIn_of _ (by decide +kernel)) ggX8_isDeal_X8_in
set_option maxRecDepth 20000 in
set_option maxRecDepth 100000 in
theorem ggX8_isDeal_X8_isWare : GoodIn wsX8_isDeal wsX8_isWare := goodIn_r _ [12, 7, 8, 4, 9] rfl (by decide +kernel)
set_option maxRecDepth 20000 in
theorem gX8_isDeal_X8_isWare : GoodIn wsX8_isDeal (va_wsS RX8 127 yX8_isWare wsX8_isWare) := goodIn_app (goodIn_of _ (by decide +kernel)) ggX8_isDeal_X8_isWare
theorem dX8_isDeal_0 : decode cX8_isDeal 0 = .ok (.aload_n 0, 1) := by decide +kernel
theorem dX8_isDeal_1 : decode cX8_isDeal 1 = .ok (.iload_n 1, 1) := by decide +kernel
theorem dX8_isDeal_2 : decode cX8_isDeal 2 = .ok (.invokevirtual 119, 3) := by decide +kernel
theorem dX8_isDeal_5 : decode cX8_isDeal 5 = .ok (.ifCond .eq 36, 3) := by decide +kernel
theorem dX8_isDeal_8 : decode cX8_isDeal 8 = .ok (.iload_n 2, 1) := by decide +kernel
theorem dX8_isDeal_9 : decode cX8_isDeal 9 = .ok (.iconst 0, 1) := by decide +kernel
theorem dX8_isDeal_10 : decode cX8_isDeal 10 = .ok (.bipush 11, 2) := by decide +kernel
theorem dX8_isDeal_12 : decode cX8_isDeal 12 = .ok (.invokestatic 108, 3) := by decide +kernel
theorem dX8_isDeal_15 : decode cX8_isDeal 15 = .ok (.ifCond .eq 26, 3) := by decide +kernel
theorem dX8_isDeal_18 : decode cX8_isDeal 18 = .ok (.iload_n 3, 1) := by decide +kernel
theorem dX8_isDeal_19 : decode cX8_isDeal 19 = .ok (.invokestatic 127, 3) := by decide +kernel
theorem dX8_isDeal_22 : decode cX8_isDeal 22 = .ok (.ifCond .eq 19, 3) := by decide +kernel
theorem dX8_isDeal_25 : decode cX8_isDeal 25 = .ok (.iload 4, 2) := by decide +kernel
theorem dX8_isDeal_27 : decode cX8_isDeal 27 = .ok (.iconst 1, 1) := by decide +kernel
theorem dX8_isDeal_28 : decode cX8_isDeal 28 = .ok (.sipush 1000, 3) := by decide +kernel
theorem dX8_isDeal_31 : decode cX8_isDeal 31 = .ok (.invokestatic 108, 3) := by decide +kernel
theorem dX8_isDeal_34 : decode cX8_isDeal 34 = .ok (.ifCond .eq 7, 3) := by decide +kernel
theorem dX8_isDeal_37 : decode cX8_isDeal 37 = .ok (.iconst 1, 1) := by decide +kernel
theorem dX8_isDeal_38 : decode cX8_isDeal 38 = .ok (.goto 4, 3) := by decide +kernel
theorem dX8_isDeal_41 : decode cX8_isDeal 41 = .ok (.iconst 0, 1) := by decide +kernel
theorem dX8_isDeal_42 : decode cX8_isDeal 42 = .ok (.ireturn, 1) := by decide +kernel
set_option maxRecDepth 20000 in
set_option maxRecDepth 100000 in
theorem ggX8_sell_X8_isDeal : GoodIn wsX8_sell wsX8_isDeal := goodIn_r _ [9, 10, 11, 12, 8, 13, 14, 15, 16, 17, 18, 19, 20, 30, 31, 32, 33, 34, 35, 36, 37, 38, 39, 40, 41, 42, 43, 44, 45, 46, 47, 48, 49, 50, 51, 52, 53, 54, 55, 56, 57, 58, 59, 60, 61, 62, 63, 64, 65, 66] rfl (by decide +kernel)
set_option maxRecDepth 20000 in
theorem gX8_sell_X8_isDeal : GoodIn wsX8_sell (wsV RX8 166 RX8 yX8_isDeal wsX8_isDeal) := goodIn_app (goodIn_of _ (by decide +kernel)) ggX8_sell_X8_isDeal
set_option maxRecDepth 20000 in
set_option maxRecDepth 100000 in
theorem ggX8_sell_X8_stored : GoodIn wsX8_sell wsX8_stored := goodIn_r _ [24, 4, 30, 31, 32, 33, 34, 35, 36, 37, 38, 39, 40, 41, 42, 43, 44, 45, 46, 47, 48, 49, 50, 51, 52, 53, 54, 55, 56, 57, 58, 59, 60, 61, 62, 63, 64, 65, 66] rfl (by decide +kernel)
set_option maxRecDepth 20000 in
theorem gX8_sell_X8_stored : GoodIn wsX8_sell (wsV RX8 130 RX8 yX8_stored wsX8_stored) := goodIn_app (goodIn_of _ (by decide +kernel)) ggX8_sell_X8_stored
set_option maxRecDepth 20000 in
set_option maxRecDepth 100000 in
theorem ggX8_sell_X8_sums : GoodIn wsX8_sell wsX8_sums := goodIn_r _ [28, 29, 30, 31, 32, 33, 34, 35, 36, 37, 38, 39, 40, 41, 42, 43, 44, 45, 46, 47, 48, 49, 50, 51, 52, 53, 54, 55, 56, 57, 58, 59, 60, 61, 62, 63, 64, 65, 66] rfl (by decide +kernel)
set_option maxRecDepth 20000 in
theorem gX8_sell_X8_sums : GoodIn wsX8_sell (wsV RX8 134 RX8 yX8_sums wsX8_sums) := goodIn_app (goodIn_of _ (by decide +kernel)) ggX8_sell_X8_sums
theorem dX8_sell_0 : decode cX8_sell 0 = .ok (.aload_n 0, 1) := by decide +kernel
theorem dX8_sell_1 : decode cX8_sell 1 = .ok (.iload_n 1, 1) := by decide +kernel
theorem dX8_sell_2 : decode cX8_sell 2 = .ok (.iload_n 2, 1) := by decide +kernel
theorem dX8_sell_3 : decode cX8_sell 3 = .ok (.iload_n 3, 1) := by decide +kernel
theorem dX8_sell_4 : decode cX8_sell 4 = .ok (.iload 4, 2) := by decide +kernel
theorem dX8_sell_6 : decode cX8_sell 6 = .ok (.invokevirtual 166, 3) := by decide +kernel
theorem dX8_sell_9 : decode cX8_sell 9 = .ok (.ifCond .eq 14, 3) := by decide +kernel
theorem dX8_sell_12 : decode cX8_sell 12 = .ok (.aload_n 0, 1) := by decide +kernel
theorem dX8_sell_13 : decode cX8_sell 13 = .ok (.iload_n 1, 1) := by decide +kernel
theorem dX8_sell_14 : decode cX8_sell 14 = .ok (.iload_n 3, 1) := by decide +kernel
theorem dX8_sell_15 : decode cX8_sell 15 = .ok (.invokevirtual 130, 3) := by decide +kernel
theorem dX8_sell_18 : decode cX8_sell 18 = .ok (.iload 4, 2) := by decide +kernel
theorem dX8_sell_20 : decode cX8_sell 20 = .ok (.if_icmp .ge 5, 3) := by decide +kernel
theorem dX8_sell_23 : decode cX8_sell 23 = .ok (.iconst (-1), 1) := by decide +kernel
theorem dX8_sell_24 : decode cX8_sell 24 = .ok (.ireturn, 1) := by decide +kernel
theorem dX8_sell_25 : decode cX8_sell 25 = .ok (.bipush 12, 2) := by decide +kernel
theorem dX8_sell_27 : decode cX8_sell 27 = .ok (.iload_n 1, 1) := by decide +kernel
theorem dX8_sell_28 : decode cX8_sell 28 = .ok (.imul, 1) := by decide +kernel
theorem dX8_sell_29 : decode cX8_sell 29 = .ok (.iload_n 2, 1) := by decide +kernel
theorem dX8_sell_30 : decode cX8_sell 30 = .ok (.iadd, 1) := by decide +kernel
theorem dX8_sell_31 : decode cX8_sell 31 = .ok (.istore 5, 2) := by decide +kernel
theorem dX8_sell_33 : decode cX8_sell 33 = .ok (.aload_n 0, 1) := by decide +kernel
theorem dX8_sell_34 : decode cX8_sell 34 = .ok (.getfield 16, 3) := by decide +kernel
theorem dX8_sell_37 : decode cX8_sell 37 = .ok (.iload 5, 2) := by decide +kernel
theorem dX8_sell_39 : decode cX8_sell 39 = .ok (.iaload, 1) := by decide +kernel
theorem dX8_sell_40 : decode cX8_sell 40 = .ok (.iload 4, 2) := by decide +kernel
theorem dX8_sell_42 : decode cX8_sell 42 = .ok (.aload_n 0, 1) := by decide +kernel
theorem dX8_sell_43 : decode cX8_sell 43 = .ok (.getfield 13, 3) := by decide +kernel
theorem dX8_sell_46 : decode cX8_sell 46 = .ok (.bipush 6, 2) := by decide +kernel
theorem dX8_sell_48 : decode cX8_sell 48 = .ok (.iload_n 1, 1) := by decide +kernel
theorem dX8_sell_49 : decode cX8_sell 49 = .ok (.imul, 1) := by decide +kernel
theorem dX8_sell_50 : decode cX8_sell 50 = .ok (.iload_n 3, 1) := by decide +kernel
theorem dX8_sell_51 : decode cX8_sell 51 = .ok (.iadd, 1) := by decide +kernel
theorem dX8_sell_52 : decode cX8_sell 52 = .ok (.iaload, 1) := by decide +kernel
theorem dX8_sell_53 : decode cX8_sell 53 = .ok (.imul, 1) := by decide +kernel
theorem dX8_sell_54 : decode cX8_sell 54 = .ok (.iadd, 1) := by decide +kernel
theorem dX8_sell_55 : decode cX8_sell 55 = .ok (.istore 6, 2) := by decide +kernel
theorem dX8_sell_57 : decode cX8_sell 57 = .ok (.iload 6, 2) := by decide +kernel
theorem dX8_sell_59 : decode cX8_sell 59 = .ok (.ldc 133, 2) := by decide +kernel
theorem dX8_sell_61 : decode cX8_sell 61 = .ok (.if_icmp .le 5, 3) := by decide +kernel
theorem dX8_sell_64 : decode cX8_sell 64 = .ok (.iconst (-1), 1) := by decide +kernel
theorem dX8_sell_65 : decode cX8_sell 65 = .ok (.ireturn, 1) := by decide +kernel
theorem dX8_sell_66 : decode cX8_sell 66 = .ok (.aload_n 0, 1) := by decide +kernel
theorem dX8_sell_67 : decode cX8_sell 67 = .ok (.getfield 16, 3) := by decide +kernel
