theorem dX5_nightOn_165 : decode cX5_nightOn 165 = .ok (.if_icmp .ge 60, 3) := by decide +kernel
theorem dX5_nightOn_168 : decode cX5_nightOn 168 = .ok (.aload_n 0, 1) := by decide +kernel
theorem dX5_nightOn_169 : decode cX5_nightOn 169 = .ok (.getfield 36, 3) := by decide +kernel
theorem dX5_nightOn_172 : decode cX5_nightOn 172 = .ok (.ifCond .le 53, 3) := by decide +kernel
theorem dX5_nightOn_175 : decode cX5_nightOn 175 = .ok (.aload_n 0, 1) := by decide +kernel
theorem dX5_nightOn_176 : decode cX5_nightOn 176 = .ok (.iload_n 2, 1) := by decide +kernel
theorem dX5_nightOn_177 : decode cX5_nightOn 177 = .ok (.aload_n 0, 1) := by decide +kernel
theorem dX5_nightOn_178 : decode cX5_nightOn 178 = .ok (.getfield 22, 3) := by decide +kernel
theorem dX5_nightOn_181 : decode cX5_nightOn 181 = .ok (.iconst 0, 1) := by decide +kernel
theorem dX5_nightOn_182 : decode cX5_nightOn 182 = .ok (.iaload, 1) := by decide +kernel
theorem dX5_nightOn_183 : decode cX5_nightOn 183 = .ok (.aload_n 0, 1) := by decide +kernel
theorem dX5_nightOn_184 : decode cX5_nightOn 184 = .ok (.getfield 36, 3) := by decide +kernel
theorem dX5_nightOn_187 : decode cX5_nightOn 187 = .ok (.irem, 1) := by decide +kernel
theorem dX5_nightOn_188 : decode cX5_nightOn 188 = .ok (.invokevirtual 63, 3) := by decide +kernel
theorem dX5_nightOn_191 : decode cX5_nightOn 191 = .ok (.ifCond .ne 6, 3) := by decide +kernel
theorem dX5_nightOn_194 : decode cX5_nightOn 194 = .ok (.goto 25, 3) := by decide +kernel
theorem dX5_nightOn_197 : decode cX5_nightOn 197 = .ok (.aload_n 0, 1) := by decide +kernel
theorem dX5_nightOn_198 : decode cX5_nightOn 198 = .ok (.getfield 22, 3) := by decide +kernel
theorem dX5_nightOn_201 : decode cX5_nightOn 201 = .ok (.iconst 1, 1) := by decide +kernel
theorem dX5_nightOn_202 : decode cX5_nightOn 202 = .ok (.dup2, 1) := by decide +kernel
theorem dX5_nightOn_203 : decode cX5_nightOn 203 = .ok (.iaload, 1) := by decide +kernel
theorem dX5_nightOn_204 : decode cX5_nightOn 204 = .ok (.aload_n 0, 1) := by decide +kernel
theorem dX5_nightOn_205 : decode cX5_nightOn 205 = .ok (.iload_n 2, 1) := by decide +kernel
theorem dX5_nightOn_206 : decode cX5_nightOn 206 = .ok (.iconst 2, 1) := by decide +kernel
theorem dX5_nightOn_207 : decode cX5_nightOn 207 = .ok (.invokevirtual 59, 3) := by decide +kernel
theorem dX5_nightOn_210 : decode cX5_nightOn 210 = .ok (.iadd, 1) := by decide +kernel
theorem dX5_nightOn_211 : decode cX5_nightOn 211 = .ok (.iastore, 1) := by decide +kernel
theorem dX5_nightOn_212 : decode cX5_nightOn 212 = .ok (.aload_n 0, 1) := by decide +kernel
theorem dX5_nightOn_213 : decode cX5_nightOn 213 = .ok (.iload_n 2, 1) := by decide +kernel
theorem dX5_nightOn_214 : decode cX5_nightOn 214 = .ok (.iconst 2, 1) := by decide +kernel
theorem dX5_nightOn_215 : decode cX5_nightOn 215 = .ok (.iconst 0, 1) := by decide +kernel
theorem dX5_nightOn_216 : decode cX5_nightOn 216 = .ok (.invokevirtual 81, 3) := by decide +kernel
theorem dX5_nightOn_219 : decode cX5_nightOn 219 = .ok (.iinc 2 1, 3) := by decide +kernel
theorem dX5_nightOn_222 : decode cX5_nightOn 222 = .ok (.goto (-62), 3) := by decide +kernel
theorem dX5_nightOn_225 : decode cX5_nightOn 225 = .ok (.iconst 0, 1) := by decide +kernel
theorem dX5_nightOn_226 : decode cX5_nightOn 226 = .ok (.istore_n 2, 1) := by decide +kernel
theorem dX5_nightOn_227 : decode cX5_nightOn 227 = .ok (.iload_n 2, 1) := by decide +kernel
theorem dX5_nightOn_228 : decode cX5_nightOn 228 = .ok (.bipush 50, 2) := by decide +kernel
theorem dX5_nightOn_230 : decode cX5_nightOn 230 = .ok (.if_icmp .ge 58, 3) := by decide +kernel
theorem dX5_nightOn_233 : decode cX5_nightOn 233 = .ok (.aload_n 0, 1) := by decide +kernel
theorem dX5_nightOn_234 : decode cX5_nightOn 234 = .ok (.getfield 9, 3) := by decide +kernel
theorem dX5_nightOn_237 : decode cX5_nightOn 237 = .ok (.iload_n 2, 1) := by decide +kernel
theorem dX5_nightOn_238 : decode cX5_nightOn 238 = .ok (.iaload, 1) := by decide +kernel
theorem dX5_nightOn_239 : decode cX5_nightOn 239 = .ok (.bipush 10, 2) := by decide +kernel
theorem dX5_nightOn_241 : decode cX5_nightOn 241 = .ok (.if_icmp .lt 41, 3) := by decide +kernel
theorem dX5_nightOn_244 : decode cX5_nightOn 244 = .ok (.aload_n 0, 1) := by decide +kernel
theorem dX5_nightOn_245 : decode cX5_nightOn 245 = .ok (.iload_n 2, 1) := by decide +kernel
theorem dX5_nightOn_246 : decode cX5_nightOn 246 = .ok (.bipush 10, 2) := by decide +kernel
theorem dX5_nightOn_248 : decode cX5_nightOn 248 = .ok (.irem, 1) := by decide +kernel
theorem dX5_nightOn_249 : decode cX5_nightOn 249 = .ok (.invokevirtual 69, 3) := by decide +kernel
theorem dX5_nightOn_252 : decode cX5_nightOn 252 = .ok (.ifCond .ne 30, 3) := by decide +kernel
theorem dX5_nightOn_255 : decode cX5_nightOn 255 = .ok (.aload_n 0, 1) := by decide +kernel
theorem dX5_nightOn_256 : decode cX5_nightOn 256 = .ok (.getfield 9, 3) := by decide +kernel
theorem dX5_nightOn_259 : decode cX5_nightOn 259 = .ok (.iload_n 2, 1) := by decide +kernel
theorem dX5_nightOn_260 : decode cX5_nightOn 260 = .ok (.bipush 40, 2) := by decide +kernel
theorem dX5_nightOn_262 : decode cX5_nightOn 262 = .ok (.aload_n 0, 1) := by decide +kernel
theorem dX5_nightOn_263 : decode cX5_nightOn 263 = .ok (.getfield 9, 3) := by decide +kernel
theorem dX5_nightOn_266 : decode cX5_nightOn 266 = .ok (.iload_n 2, 1) := by decide +kernel
theorem dX5_nightOn_267 : decode cX5_nightOn 267 = .ok (.iaload, 1) := by decide +kernel
theorem dX5_nightOn_268 : decode cX5_nightOn 268 = .ok (.aload_n 0, 1) := by decide +kernel
theorem dX5_nightOn_269 : decode cX5_nightOn 269 = .ok (.getfield 9, 3) := by decide +kernel
theorem dX5_nightOn_272 : decode cX5_nightOn 272 = .ok (.iload_n 2, 1) := by decide +kernel
theorem dX5_nightOn_273 : decode cX5_nightOn 273 = .ok (.iaload, 1) := by decide +kernel
theorem dX5_nightOn_274 : decode cX5_nightOn 274 = .ok (.bipush 10, 2) := by decide +kernel
theorem dX5_nightOn_276 : decode cX5_nightOn 276 = .ok (.idiv, 1) := by decide +kernel
theorem dX5_nightOn_277 : decode cX5_nightOn 277 = .ok (.iadd, 1) := by decide +kernel
theorem dX5_nightOn_278 : decode cX5_nightOn 278 = .ok (.invokestatic 101, 3) := by decide +kernel
theorem dX5_nightOn_281 : decode cX5_nightOn 281 = .ok (.iastore, 1) := by decide +kernel
theorem dX5_nightOn_282 : decode cX5_nightOn 282 = .ok (.iinc 2 1, 3) := by decide +kernel
theorem dX5_nightOn_285 : decode cX5_nightOn 285 = .ok (.goto (-58), 3) := by decide +kernel
theorem dX5_nightOn_288 : decode cX5_nightOn 288 = .ok (.aload_n 0, 1) := by decide +kernel
theorem dX5_nightOn_289 : decode cX5_nightOn 289 = .ok (.getfield 22, 3) := by decide +kernel
theorem dX5_nightOn_292 : decode cX5_nightOn 292 = .ok (.iconst 0, 1) := by decide +kernel
theorem dX5_nightOn_293 : decode cX5_nightOn 293 = .ok (.dup2, 1) := by decide +kernel
theorem dX5_nightOn_294 : decode cX5_nightOn 294 = .ok (.iaload, 1) := by decide +kernel
theorem dX5_nightOn_295 : decode cX5_nightOn 295 = .ok (.iconst 1, 1) := by decide +kernel
theorem dX5_nightOn_296 : decode cX5_nightOn 296 = .ok (.iadd, 1) := by decide +kernel
theorem dX5_nightOn_297 : decode cX5_nightOn 297 = .ok (.iastore, 1) := by decide +kernel
theorem dX5_nightOn_298 : decode cX5_nightOn 298 = .ok (.return_, 1) := by decide +kernel
set_option maxRecDepth 20000 in
theorem ggX5_nightsOn_X5_all : GoodIn wsX5_nightsOn wsX5_all := goodIn_r _ [5, 6, 7, 8, 9, 4, 10, 11, 72, 73, 74, 75, 76, 77, 78, 79, 80] (by decide +kernel) (by decide +kernel)
set_option maxRecDepth 20000 in
theorem gX5_nightsOn_X5_all : GoodIn wsX5_nightsOn (wsV RX5 92 RX5 yX5_all wsX5_all) := goodIn_app (goodIn_of _ (by decide +kernel)) ggX5_nightsOn_X5_all
set_option maxRecDepth 20000 in
theorem ggX5_nightsOn_X5_nightOn : GoodIn wsX5_nightsOn wsX5_nightOn := goodIn_r _ [15, 16, 17, 18, 6, 19, 20, 21, 22, 23, 24, 25, 26, 27, 4, 28, 29, 30, 31, 32, 33, 34, 35, 36, 37, 38, 39, 40, 41, 42, 43, 44, 45, 46, 47, 48, 49, 50, 51, 52, 7, 8, 9, 10, 11, 53, 54, 55, 56, 57, 58, 59, 60, 61, 62, 63, 64, 65, 66, 67, 68, 69, 70, 71, 72, 73, 74, 75, 76, 77, 78, 79, 80] (by decide +kernel) (by decide +kernel)
set_option maxRecDepth 20000 in
theorem gX5_nightsOn_X5_nightOn : GoodIn wsX5_nightsOn (wsV RX5 117 RX5 yX5_nightOn wsX5_nightOn) := goodIn_app (goodIn_of _ (by decide +kernel)) ggX5_nightsOn_X5_nightOn
theorem dX5_nightsOn_0 : decode cX5_nightsOn 0 = .ok (.aload_n 0, 1) := by decide +kernel
theorem dX5_nightsOn_1 : decode cX5_nightsOn 1 = .ok (.iconst 4, 1) := by decide +kernel
theorem dX5_nightsOn_2 : decode cX5_nightsOn 2 = .ok (.invokevirtual 92, 3) := by decide +kernel
theorem dX5_nightsOn_5 : decode cX5_nightsOn 5 = .ok (.istore_n 2, 1) := by decide +kernel
theorem dX5_nightsOn_6 : decode cX5_nightsOn 6 = .ok (.iconst 0, 1) := by decide +kernel
theorem dX5_nightsOn_7 : decode cX5_nightsOn 7 = .ok (.istore_n 3, 1) := by decide +kernel
theorem dX5_nightsOn_8 : decode cX5_nightsOn 8 = .ok (.iload_n 3, 1) := by decide +kernel
theorem dX5_nightsOn_9 : decode cX5_nightsOn 9 = .ok (.iload_n 1, 1) := by decide +kernel
theorem dX5_nightsOn_10 : decode cX5_nightsOn 10 = .ok (.if_icmp .ge 13, 3) := by decide +kernel
theorem dX5_nightsOn_13 : decode cX5_nightsOn 13 = .ok (.aload_n 0, 1) := by decide +kernel
theorem dX5_nightsOn_14 : decode cX5_nightsOn 14 = .ok (.invokevirtual 117, 3) := by decide +kernel
theorem dX5_nightsOn_17 : decode cX5_nightsOn 17 = .ok (.iinc 3 1, 3) := by decide +kernel
theorem dX5_nightsOn_20 : decode cX5_nightsOn 20 = .ok (.goto (-12), 3) := by decide +kernel
theorem dX5_nightsOn_23 : decode cX5_nightsOn 23 = .ok (.aload_n 0, 1) := by decide +kernel
theorem dX5_nightsOn_24 : decode cX5_nightsOn 24 = .ok (.iconst 4, 1) := by decide +kernel
theorem dX5_nightsOn_25 : decode cX5_nightsOn 25 = .ok (.invokevirtual 92, 3) := by decide +kernel
theorem dX5_nightsOn_28 : decode cX5_nightsOn 28 = .ok (.iload_n 2, 1) := by decide +kernel
theorem dX5_nightsOn_29 : decode cX5_nightsOn 29 = .ok (.isub, 1) := by decide +kernel
theorem dX5_nightsOn_30 : decode cX5_nightsOn 30 = .ok (.ireturn, 1) := by decide +kernel
set_option maxRecDepth 20000 in
theorem ggX5_pass_X5_isIn : GoodIn wsX5_pass wsX5_isIn := goodIn_r _ [5] (by decide +kernel) (by decide +kernel)
set_option maxRecDepth 20000 in
theorem gX5_pass_X5_isIn : GoodIn wsX5_pass (va_wsS RX5 32 yX5_isIn wsX5_isIn) := goodIn_app (goodIn_of _ (by decide +kernel)) ggX5_pass_X5_isIn
set_option maxRecDepth 20000 in
theorem ggX5_pass_X5_nightsOn : GoodIn wsX5_pass wsX5_nightsOn := goodIn_r _ [9, 10, 11, 12, 4, 13, 14, 15, 16, 17, 18, 19, 20, 21, 22, 23, 24, 25, 26, 27, 28, 29, 30, 31, 32, 33, 34, 35, 36, 37, 38, 39, 40, 41, 42, 43, 44, 45, 46, 47, 48, 49, 50, 51, 52, 53, 54, 55, 56, 57, 58, 59, 60, 61, 62, 63, 64, 65, 66, 67, 68, 69, 70, 71, 72, 73, 74, 75, 76, 77, 78, 79, 84, 85, 86, 87, 88, 89, 90, 91, 92] (by decide +kernel) (by decide +kernel)
set_option maxRecDepth 20000 in
theorem gX5_pass_X5_nightsOn : GoodIn wsX5_pass (wsV RX5 120 RX5 yX5_nightsOn wsX5_nightsOn) := goodIn_app (goodIn_of _ (by decide +kernel)) ggX5_pass_X5_nightsOn
set_option maxRecDepth 20000 in
theorem ggX5_pass_X5_fail : GoodIn wsX5_pass wsX5_fail := goodIn_r _ [83, 1, 84, 85, 86, 87, 88, 89, 90, 91, 92] (by decide +kernel) (by decide +kernel)
set_option maxRecDepth 20000 in
theorem gX5_pass_X5_fail : GoodIn wsX5_pass (wsV RX5 52 RX5 yX5_fail wsX5_fail) := goodIn_app (goodIn_of _ (by decide +kernel)) ggX5_pass_X5_fail
theorem dX5_pass_0 : decode cX5_pass 0 = .ok (.aload_n 0, 1) := by decide +kernel
theorem dX5_pass_1 : decode cX5_pass 1 = .ok (.iconst 0, 1) := by decide +kernel
theorem dX5_pass_2 : decode cX5_pass 2 = .ok (.putfield 28, 3) := by decide +kernel
theorem dX5_pass_5 : decode cX5_pass 5 = .ok (.iload_n 1, 1) := by decide +kernel
theorem dX5_pass_6 : decode cX5_pass 6 = .ok (.iconst 1, 1) := by decide +kernel
theorem dX5_pass_7 : decode cX5_pass 7 = .ok (.bipush 60, 2) := by decide +kernel
theorem dX5_pass_9 : decode cX5_pass 9 = .ok (.invokestatic 32, 3) := by decide +kernel
theorem dX5_pass_12 : decode cX5_pass 12 = .ok (.ifCond .eq 11, 3) := by decide +kernel
theorem dX5_pass_15 : decode cX5_pass 15 = .ok (.aload_n 0, 1) := by decide +kernel
theorem dX5_pass_16 : decode cX5_pass 16 = .ok (.iload_n 1, 1) := by decide +kernel
theorem dX5_pass_17 : decode cX5_pass 17 = .ok (.invokevirtual 120, 3) := by decide +kernel
theorem dX5_pass_20 : decode cX5_pass 20 = .ok (.goto 8, 3) := by decide +kernel
theorem dX5_pass_23 : decode cX5_pass 23 = .ok (.aload_n 0, 1) := by decide +kernel
theorem dX5_pass_24 : decode cX5_pass 24 = .ok (.iconst 1, 1) := by decide +kernel
theorem dX5_pass_25 : decode cX5_pass 25 = .ok (.invokevirtual 52, 3) := by decide +kernel
theorem dX5_pass_28 : decode cX5_pass 28 = .ok (.ireturn, 1) := by decide +kernel
set_option maxRecDepth 20000 in
theorem ggX5_dark_X5_isIn : GoodIn wsX5_dark wsX5_isIn := goodIn_r _ [6] (by decide +kernel) (by decide +kernel)
set_option maxRecDepth 20000 in
theorem gX5_dark_X5_isIn : GoodIn wsX5_dark (va_wsS RX5 32 yX5_isIn wsX5_isIn) := goodIn_app (goodIn_of _ (by decide +kernel)) ggX5_dark_X5_isIn
set_option maxRecDepth 20000 in
theorem ggX5_dark_X5_fail : GoodIn wsX5_dark wsX5_fail := goodIn_r _ [10, 1, 18, 19, 20, 21, 22, 23, 24, 25, 26] (by decide +kernel) (by decide +kernel)
set_option maxRecDepth 20000 in
theorem gX5_dark_X5_fail : GoodIn wsX5_dark (wsV RX5 52 RX5 yX5_fail wsX5_fail) := goodIn_app (goodIn_of _ (by decide +kernel)) ggX5_dark_X5_fail
set_option maxRecDepth 20000 in
theorem ggX5_dark_X5_moon : GoodIn wsX5_dark wsX5_moon := goodIn_r _ [13, 14, 15, 16, 17] (by decide +kernel) (by decide +kernel)
set_option maxRecDepth 20000 in
theorem gX5_dark_X5_moon : GoodIn wsX5_dark (va_wsS RX5 85 yX5_moon wsX5_moon) := goodIn_app (goodIn_of _ (by decide +kernel)) ggX5_dark_X5_moon
theorem dX5_dark_0 : decode cX5_dark 0 = .ok (.aload_n 0, 1) := by decide +kernel
theorem dX5_dark_1 : decode cX5_dark 1 = .ok (.iconst 0, 1) := by decide +kernel
theorem dX5_dark_2 : decode cX5_dark 2 = .ok (.putfield 28, 3) := by decide +kernel
theorem dX5_dark_5 : decode cX5_dark 5 = .ok (.iload_n 1, 1) := by decide +kernel
theorem dX5_dark_6 : decode cX5_dark 6 = .ok (.iconst 0, 1) := by decide +kernel
theorem dX5_dark_7 : decode cX5_dark 7 = .ok (.iconst 4, 1) := by decide +kernel
theorem dX5_dark_8 : decode cX5_dark 8 = .ok (.invokestatic 32, 3) := by decide +kernel
theorem dX5_dark_11 : decode cX5_dark 11 = .ok (.ifCond .ne 9, 3) := by decide +kernel
theorem dX5_dark_14 : decode cX5_dark 14 = .ok (.aload_n 0, 1) := by decide +kernel
theorem dX5_dark_15 : decode cX5_dark 15 = .ok (.iconst 1, 1) := by decide +kernel
theorem dX5_dark_16 : decode cX5_dark 16 = .ok (.invokevirtual 52, 3) := by decide +kernel
theorem dX5_dark_19 : decode cX5_dark 19 = .ok (.ireturn, 1) := by decide +kernel
theorem dX5_dark_20 : decode cX5_dark 20 = .ok (.iconst 0, 1) := by decide +kernel
theorem dX5_dark_21 : decode cX5_dark 21 = .ok (.istore_n 2, 1) := by decide +kernel
theorem dX5_dark_22 : decode cX5_dark 22 = .ok (.aload_n 0, 1) := by decide +kernel
theorem dX5_dark_23 : decode cX5_dark 23 = .ok (.getfield 22, 3) := by decide +kernel
theorem dX5_dark_26 : decode cX5_dark 26 = .ok (.iconst 0, 1) := by decide +kernel
theorem dX5_dark_27 : decode cX5_dark 27 = .ok (.iaload, 1) := by decide +kernel
theorem dX5_dark_28 : decode cX5_dark 28 = .ok (.iload_n 2, 1) := by decide +kernel
theorem dX5_dark_29 : decode cX5_dark 29 = .ok (.iadd, 1) := by decide +kernel
theorem dX5_dark_30 : decode cX5_dark 30 = .ok (.invokestatic 85, 3) := by decide +kernel
theorem dX5_dark_33 : decode cX5_dark 33 = .ok (.iload_n 1, 1) := by decide +kernel
theorem dX5_dark_34 : decode cX5_dark 34 = .ok (.if_icmp .le 9, 3) := by decide +kernel
theorem dX5_dark_37 : decode cX5_dark 37 = .ok (.iinc 2 1, 3) := by decide +kernel
theorem dX5_dark_40 : decode cX5_dark 40 = .ok (.goto (-18), 3) := by decide +kernel
theorem dX5_dark_43 : decode cX5_dark 43 = .ok (.iload_n 2, 1) := by decide +kernel
theorem dX5_dark_44 : decode cX5_dark 44 = .ok (.ireturn, 1) := by decide +kernel
theorem dX5_kept_0 : decode cX5_kept 0 = .ok (.iconst 4, 1) := by decide +kernel
theorem dX5_kept_1 : decode cX5_kept 1 = .ok (.anewarray 123, 3) := by decide +kernel
theorem dX5_kept_4 : decode cX5_kept 4 = .ok (.dup, 1) := by decide +kernel
theorem dX5_kept_5 : decode cX5_kept 5 = .ok (.iconst 0, 1) := by decide +kernel
theorem dX5_kept_6 : decode cX5_kept 6 = .ok (.aload_n 0, 1) := by decide +kernel
theorem dX5_kept_7 : decode cX5_kept 7 = .ok (.getfield 9, 3) := by decide +kernel
theorem dX5_kept_10 : decode cX5_kept 10 = .ok (.invokevirtual 124, 3) := by decide +kernel
theorem dX5_kept_13 : decode cX5_kept 13 = .ok (.checkcast 123, 3) := by decide +kernel
theorem dX5_kept_16 : decode cX5_kept 16 = .ok (.aastore, 1) := by decide +kernel
theorem dX5_kept_17 : decode cX5_kept 17 = .ok (.dup, 1) := by decide +kernel
theorem dX5_kept_18 : decode cX5_kept 18 = .ok (.iconst 1, 1) := by decide +kernel
theorem dX5_kept_19 : decode cX5_kept 19 = .ok (.aload_n 0, 1) := by decide +kernel
theorem dX5_kept_20 : decode cX5_kept 20 = .ok (.getfield 19, 3) := by decide +kernel
theorem dX5_kept_23 : decode cX5_kept 23 = .ok (.invokevirtual 124, 3) := by decide +kernel
theorem dX5_kept_26 : decode cX5_kept 26 = .ok (.checkcast 123, 3) := by decide +kernel
theorem dX5_kept_29 : decode cX5_kept 29 = .ok (.aastore, 1) := by decide +kernel
theorem dX5_kept_30 : decode cX5_kept 30 = .ok (.dup, 1) := by decide +kernel
theorem dX5_kept_31 : decode cX5_kept 31 = .ok (.iconst 2, 1) := by decide +kernel
theorem dX5_kept_32 : decode cX5_kept 32 = .ok (.aload_n 0, 1) := by decide +kernel
theorem dX5_kept_33 : decode cX5_kept 33 = .ok (.getfield 22, 3) := by decide +kernel
theorem dX5_kept_36 : decode cX5_kept 36 = .ok (.invokevirtual 124, 3) := by decide +kernel
theorem dX5_kept_39 : decode cX5_kept 39 = .ok (.checkcast 123, 3) := by decide +kernel
theorem dX5_kept_42 : decode cX5_kept 42 = .ok (.aastore, 1) := by decide +kernel
theorem dX5_kept_43 : decode cX5_kept 43 = .ok (.dup, 1) := by decide +kernel
theorem dX5_kept_44 : decode cX5_kept 44 = .ok (.iconst 3, 1) := by decide +kernel
theorem dX5_kept_45 : decode cX5_kept 45 = .ok (.aload_n 0, 1) := by decide +kernel
theorem dX5_kept_46 : decode cX5_kept 46 = .ok (.getfield 16, 3) := by decide +kernel
theorem dX5_kept_49 : decode cX5_kept 49 = .ok (.invokevirtual 124, 3) := by decide +kernel
theorem dX5_kept_52 : decode cX5_kept 52 = .ok (.checkcast 123, 3) := by decide +kernel
theorem dX5_kept_55 : decode cX5_kept 55 = .ok (.aastore, 1) := by decide +kernel
theorem dX5_kept_56 : decode cX5_kept 56 = .ok (.areturn, 1) := by decide +kernel
theorem dX5_bringBack_0 : decode cX5_bringBack 0 = .ok (.iconst 4, 1) := by decide +kernel
theorem dX5_bringBack_1 : decode cX5_bringBack 1 = .ok (.anewarray 123, 3) := by decide +kernel
theorem dX5_bringBack_4 : decode cX5_bringBack 4 = .ok (.dup, 1) := by decide +kernel
theorem dX5_bringBack_5 : decode cX5_bringBack 5 = .ok (.iconst 0, 1) := by decide +kernel
theorem dX5_bringBack_6 : decode cX5_bringBack 6 = .ok (.aload_n 0, 1) := by decide +kernel
theorem dX5_bringBack_7 : decode cX5_bringBack 7 = .ok (.getfield 9, 3) := by decide +kernel
theorem dX5_bringBack_10 : decode cX5_bringBack 10 = .ok (.aastore, 1) := by decide +kernel
theorem dX5_bringBack_11 : decode cX5_bringBack 11 = .ok (.dup, 1) := by decide +kernel
theorem dX5_bringBack_12 : decode cX5_bringBack 12 = .ok (.iconst 1, 1) := by decide +kernel
theorem dX5_bringBack_13 : decode cX5_bringBack 13 = .ok (.aload_n 0, 1) := by decide +kernel
theorem dX5_bringBack_14 : decode cX5_bringBack 14 = .ok (.getfield 19, 3) := by decide +kernel
theorem dX5_bringBack_17 : decode cX5_bringBack 17 = .ok (.aastore, 1) := by decide +kernel
theorem dX5_bringBack_18 : decode cX5_bringBack 18 = .ok (.dup, 1) := by decide +kernel
theorem dX5_bringBack_19 : decode cX5_bringBack 19 = .ok (.iconst 2, 1) := by decide +kernel
theorem dX5_bringBack_20 : decode cX5_bringBack 20 = .ok (.aload_n 0, 1) := by decide +kernel
theorem dX5_bringBack_21 : decode cX5_bringBack 21 = .ok (.getfield 22, 3) := by decide +kernel
theorem dX5_bringBack_24 : decode cX5_bringBack 24 = .ok (.aastore, 1) := by decide +kernel
theorem dX5_bringBack_25 : decode cX5_bringBack 25 = .ok (.dup, 1) := by decide +kernel
theorem dX5_bringBack_26 : decode cX5_bringBack 26 = .ok (.iconst 3, 1) := by decide +kernel
theorem dX5_bringBack_27 : decode cX5_bringBack 27 = .ok (.aload_n 0, 1) := by decide +kernel
theorem dX5_bringBack_28 : decode cX5_bringBack 28 = .ok (.getfield 16, 3) := by decide +kernel
theorem dX5_bringBack_31 : decode cX5_bringBack 31 = .ok (.aastore, 1) := by decide +kernel
theorem dX5_bringBack_32 : decode cX5_bringBack 32 = .ok (.astore_n 2, 1) := by decide +kernel
theorem dX5_bringBack_33 : decode cX5_bringBack 33 = .ok (.iconst 0, 1) := by decide +kernel
theorem dX5_bringBack_34 : decode cX5_bringBack 34 = .ok (.istore_n 3, 1) := by decide +kernel
theorem dX5_bringBack_35 : decode cX5_bringBack 35 = .ok (.iload_n 3, 1) := by decide +kernel
theorem dX5_bringBack_36 : decode cX5_bringBack 36 = .ok (.aload_n 2, 1) := by decide +kernel
theorem dX5_bringBack_37 : decode cX5_bringBack 37 = .ok (.arraylength, 1) := by decide +kernel
theorem dX5_bringBack_38 : decode cX5_bringBack 38 = .ok (.if_icmp .ge 24, 3) := by decide +kernel
theorem dX5_bringBack_41 : decode cX5_bringBack 41 = .ok (.aload_n 1, 1) := by decide +kernel
theorem dX5_bringBack_42 : decode cX5_bringBack 42 = .ok (.iload_n 3, 1) := by decide +kernel
theorem dX5_bringBack_43 : decode cX5_bringBack 43 = .ok (.aaload, 1) := by decide +kernel
theorem dX5_bringBack_44 : decode cX5_bringBack 44 = .ok (.iconst 0, 1) := by decide +kernel
theorem dX5_bringBack_45 : decode cX5_bringBack 45 = .ok (.aload_n 2, 1) := by decide +kernel
theorem dX5_bringBack_46 : decode cX5_bringBack 46 = .ok (.iload_n 3, 1) := by decide +kernel
theorem dX5_bringBack_47 : decode cX5_bringBack 47 = .ok (.aaload, 1) := by decide +kernel
theorem dX5_bringBack_48 : decode cX5_bringBack 48 = .ok (.iconst 0, 1) := by decide +kernel
theorem dX5_bringBack_49 : decode cX5_bringBack 49 = .ok (.aload_n 2, 1) := by decide +kernel
theorem dX5_bringBack_50 : decode cX5_bringBack 50 = .ok (.iload_n 3, 1) := by decide +kernel
theorem dX5_bringBack_51 : decode cX5_bringBack 51 = .ok (.aaload, 1) := by decide +kernel
theorem dX5_bringBack_52 : decode cX5_bringBack 52 = .ok (.arraylength, 1) := by decide +kernel
theorem dX5_bringBack_53 : decode cX5_bringBack 53 = .ok (.invokestatic 72, 3) := by decide +kernel
theorem dX5_bringBack_56 : decode cX5_bringBack 56 = .ok (.iinc 3 1, 3) := by decide +kernel
theorem dX5_bringBack_59 : decode cX5_bringBack 59 = .ok (.goto (-24), 3) := by decide +kernel
theorem dX5_bringBack_62 : decode cX5_bringBack 62 = .ok (.return_, 1) := by decide +kernel
set_option maxRecDepth 20000 in
theorem ggX5_foresee_X5_isIn : GoodIn wsX5_foresee wsX5_isIn := goodIn_r _ [5] (by decide +kernel) (by decide +kernel)
set_option maxRecDepth 20000 in
theorem gX5_foresee_X5_isIn : GoodIn wsX5_foresee (va_wsS RX5 32 yX5_isIn wsX5_isIn) := goodIn_app (goodIn_of _ (by decide +kernel)) ggX5_foresee_X5_isIn
set_option maxRecDepth 20000 in
theorem ggX5_foresee_X5_fail : GoodIn wsX5_foresee wsX5_fail := goodIn_r _ [9, 1, 102, 103, 104, 105, 106, 107, 108, 109, 110] (by decide +kernel) (by decide +kernel)
set_option maxRecDepth 20000 in
theorem gX5_foresee_X5_fail : GoodIn wsX5_foresee (wsV RX5 52 RX5 yX5_fail wsX5_fail) := goodIn_app (goodIn_of _ (by decide +kernel)) ggX5_foresee_X5_fail
set_option maxRecDepth 20000 in
theorem ggX5_foresee_X5_kept : GoodIn wsX5_foresee wsX5_kept := goodIn_r _ [13, 14, 15, 16, 17, 18, 19, 20, 21, 22, 23, 102, 103, 104, 105, 106, 107, 108, 109, 110] (by decide +kernel) (by decide +kernel)
set_option maxRecDepth 20000 in
theorem gX5_foresee_X5_kept : GoodIn wsX5_foresee (wsV RX5 128 RX5 yX5_kept wsX5_kept) := goodIn_app (goodIn_of _ (by decide +kernel)) ggX5_foresee_X5_kept
set_option maxRecDepth 20000 in
theorem ggX5_foresee_X5_all : GoodIn wsX5_foresee wsX5_all := goodIn_r _ [27, 28, 29, 30, 31, 4, 32, 21, 102, 103, 104, 105, 106, 107, 108, 109, 110] (by decide +kernel) (by decide +kernel)
set_option maxRecDepth 20000 in
theorem gX5_foresee_X5_all : GoodIn wsX5_foresee (wsV RX5 92 RX5 yX5_all wsX5_all) := goodIn_app (goodIn_of _ (by decide +kernel)) ggX5_foresee_X5_all
set_option maxRecDepth 20000 in
theorem ggX5_foresee_X5_nightsOn : GoodIn wsX5_foresee wsX5_nightsOn := goodIn_r _ [36, 24, 25, 26, 4, 27, 28, 29, 30, 31, 32, 21, 37, 38, 39, 40, 41, 42, 22, 23, 15, 43, 44, 45, 46, 47, 48, 49, 50, 51, 52, 53, 54, 55, 56, 57, 58, 59, 60, 61, 62, 63, 64, 65, 66, 67, 68, 69, 70, 71, 72, 73, 74, 75, 76, 77, 78, 79, 80, 81, 82, 83, 84, 85, 86, 87, 88, 89, 90, 91, 92, 93, 102, 103, 104, 105, 106, 107, 108, 109, 110] (by decide +kernel) (by decide +kernel)
set_option maxRecDepth 20000 in
theorem gX5_foresee_X5_nightsOn : GoodIn wsX5_foresee (wsV RX5 120 RX5 yX5_nightsOn wsX5_nightsOn) := goodIn_app (goodIn_of _ (by decide +kernel)) ggX5_foresee_X5_nightsOn
set_option maxRecDepth 20000 in
theorem ggX5_foresee_X5_flies : GoodIn wsX5_foresee wsX5_flies := goodIn_r _ [97, 15, 102, 103, 104, 105, 106, 107, 108, 109, 110] (by decide +kernel) (by decide +kernel)
set_option maxRecDepth 20000 in
theorem gX5_foresee_X5_flies : GoodIn wsX5_foresee (wsV RX5 88 RX5 yX5_flies wsX5_flies) := goodIn_app (goodIn_of _ (by decide +kernel)) ggX5_foresee_X5_flies
set_option maxRecDepth 20000 in
theorem ggX5_foresee_X5_bringBack : GoodIn wsX5_foresee wsX5_bringBack := goodIn_r _ [101, 14, 15, 21, 22, 23, 52, 53, 54, 55, 102, 103, 104, 105, 106, 107, 108, 109, 110] (by decide +kernel) (by decide +kernel)
set_option maxRecDepth 20000 in
theorem gX5_foresee_X5_bringBack : GoodIn wsX5_foresee (wsV RX5 132 RX5 yX5_bringBack wsX5_bringBack) := goodIn_app (goodIn_of _ (by decide +kernel)) ggX5_foresee_X5_bringBack
theorem dX5_foresee_0 : decode cX5_foresee 0 = .ok (.aload_n 0, 1) := by decide +kernel
theorem dX5_foresee_1 : decode cX5_foresee 1 = .ok (.iconst 0, 1) := by decide +kernel
theorem dX5_foresee_2 : decode cX5_foresee 2 = .ok (.putfield 28, 3) := by decide +kernel
theorem dX5_foresee_5 : decode cX5_foresee 5 = .ok (.iload_n 1, 1) := by decide +kernel
theorem dX5_foresee_6 : decode cX5_foresee 6 = .ok (.iconst 1, 1) := by decide +kernel
theorem dX5_foresee_7 : decode cX5_foresee 7 = .ok (.bipush 60, 2) := by decide +kernel
theorem dX5_foresee_9 : decode cX5_foresee 9 = .ok (.invokestatic 32, 3) := by decide +kernel
theorem dX5_foresee_12 : decode cX5_foresee 12 = .ok (.ifCond .ne 9, 3) := by decide +kernel
theorem dX5_foresee_15 : decode cX5_foresee 15 = .ok (.aload_n 0, 1) := by decide +kernel
theorem dX5_foresee_16 : decode cX5_foresee 16 = .ok (.iconst 1, 1) := by decide +kernel
theorem dX5_foresee_17 : decode cX5_foresee 17 = .ok (.invokevirtual 52, 3) := by decide +kernel
theorem dX5_foresee_20 : decode cX5_foresee 20 = .ok (.ireturn, 1) := by decide +kernel
theorem dX5_foresee_21 : decode cX5_foresee 21 = .ok (.iload_n 2, 1) := by decide +kernel
theorem dX5_foresee_22 : decode cX5_foresee 22 = .ok (.iconst 0, 1) := by decide +kernel
theorem dX5_foresee_23 : decode cX5_foresee 23 = .ok (.iconst 2, 1) := by decide +kernel
theorem dX5_foresee_24 : decode cX5_foresee 24 = .ok (.invokestatic 32, 3) := by decide +kernel
theorem dX5_foresee_27 : decode cX5_foresee 27 = .ok (.ifCond .ne 9, 3) := by decide +kernel
theorem dX5_foresee_30 : decode cX5_foresee 30 = .ok (.aload_n 0, 1) := by decide +kernel
theorem dX5_foresee_31 : decode cX5_foresee 31 = .ok (.iconst 2, 1) := by decide +kernel
theorem dX5_foresee_32 : decode cX5_foresee 32 = .ok (.invokevirtual 52, 3) := by decide +kernel
theorem dX5_foresee_35 : decode cX5_foresee 35 = .ok (.ireturn, 1) := by decide +kernel
theorem dX5_foresee_36 : decode cX5_foresee 36 = .ok (.aload_n 0, 1) := by decide +kernel
theorem dX5_foresee_37 : decode cX5_foresee 37 = .ok (.invokevirtual 128, 3) := by decide +kernel
theorem dX5_foresee_40 : decode cX5_foresee 40 = .ok (.astore_n 3, 1) := by decide +kernel
theorem dX5_foresee_41 : decode cX5_foresee 41 = .ok (.aload_n 0, 1) := by decide +kernel
theorem dX5_foresee_42 : decode cX5_foresee 42 = .ok (.iconst 3, 1) := by decide +kernel
theorem dX5_foresee_43 : decode cX5_foresee 43 = .ok (.invokevirtual 92, 3) := by decide +kernel
theorem dX5_foresee_46 : decode cX5_foresee 46 = .ok (.istore 4, 2) := by decide +kernel
theorem dX5_foresee_48 : decode cX5_foresee 48 = .ok (.aload_n 0, 1) := by decide +kernel
theorem dX5_foresee_49 : decode cX5_foresee 49 = .ok (.iload_n 1, 1) := by decide +kernel
theorem dX5_foresee_50 : decode cX5_foresee 50 = .ok (.invokevirtual 120, 3) := by decide +kernel
theorem dX5_foresee_53 : decode cX5_foresee 53 = .ok (.istore 5, 2) := by decide +kernel
theorem dX5_foresee_55 : decode cX5_foresee 55 = .ok (.iload_n 2, 1) := by decide +kernel
theorem dX5_foresee_56 : decode cX5_foresee 56 = .ok (.ifCond .ne 8, 3) := by decide +kernel
theorem dX5_foresee_59 : decode cX5_foresee 59 = .ok (.iload 5, 2) := by decide +kernel
theorem dX5_foresee_61 : decode cX5_foresee 61 = .ok (.goto 23, 3) := by decide +kernel
theorem dX5_foresee_64 : decode cX5_foresee 64 = .ok (.iload_n 2, 1) := by decide +kernel
theorem dX5_foresee_65 : decode cX5_foresee 65 = .ok (.iconst 1, 1) := by decide +kernel
theorem dX5_foresee_66 : decode cX5_foresee 66 = .ok (.if_icmp .ne 10, 3) := by decide +kernel
theorem dX5_foresee_69 : decode cX5_foresee 69 = .ok (.aload_n 0, 1) := by decide +kernel
theorem dX5_foresee_70 : decode cX5_foresee 70 = .ok (.invokevirtual 88, 3) := by decide +kernel
theorem dX5_foresee_73 : decode cX5_foresee 73 = .ok (.goto 11, 3) := by decide +kernel
theorem dX5_foresee_76 : decode cX5_foresee 76 = .ok (.aload_n 0, 1) := by decide +kernel
theorem dX5_foresee_77 : decode cX5_foresee 77 = .ok (.iconst 3, 1) := by decide +kernel
theorem dX5_foresee_78 : decode cX5_foresee 78 = .ok (.invokevirtual 92, 3) := by decide +kernel
theorem dX5_foresee_81 : decode cX5_foresee 81 = .ok (.iload 4, 2) := by decide +kernel
theorem dX5_foresee_83 : decode cX5_foresee 83 = .ok (.isub, 1) := by decide +kernel
theorem dX5_foresee_84 : decode cX5_foresee 84 = .ok (.istore 6, 2) := by decide +kernel
theorem dX5_foresee_86 : decode cX5_foresee 86 = .ok (.aload_n 0, 1) := by decide +kernel
theorem dX5_foresee_87 : decode cX5_foresee 87 = .ok (.aload_n 3, 1) := by decide +kernel
theorem dX5_foresee_88 : decode cX5_foresee 88 = .ok (.invokevirtual 132, 3) := by decide +kernel
theorem dX5_foresee_91 : decode cX5_foresee 91 = .ok (.iload 6, 2) := by decide +kernel
theorem dX5_foresee_93 : decode cX5_foresee 93 = .ok (.ireturn, 1) := by decide +kernel
set_option maxRecDepth 20000 in
theorem ggX5_advise_X5_isIn : GoodIn wsX5_advise wsX5_isIn := goodIn_r _ [7] (by decide +kernel) (by decide +kernel)
set_option maxRecDepth 20000 in
theorem gX5_advise_X5_isIn : GoodIn wsX5_advise (va_wsS RX5 32 yX5_isIn wsX5_isIn) := goodIn_app (goodIn_of _ (by decide +kernel)) ggX5_advise_X5_isIn
set_option maxRecDepth 20000 in
theorem ggX5_advise_X5_fail : GoodIn wsX5_advise wsX5_fail := goodIn_r _ [11, 1, 98, 99, 100, 101, 102, 103, 104, 105, 106] (by decide +kernel) (by decide +kernel)
set_option maxRecDepth 20000 in
theorem gX5_advise_X5_fail : GoodIn wsX5_advise (wsV RX5 52 RX5 yX5_fail wsX5_fail) := goodIn_app (goodIn_of _ (by decide +kernel)) ggX5_advise_X5_fail
set_option maxRecDepth 20000 in
theorem ggX5_advise_X5_kept : GoodIn wsX5_advise wsX5_kept := goodIn_r _ [15, 16, 17, 18, 19, 20, 21, 22, 23, 24, 3, 98, 99, 100, 101, 102, 103, 104, 105, 106] (by decide +kernel) (by decide +kernel)
set_option maxRecDepth 20000 in
theorem gX5_advise_X5_kept : GoodIn wsX5_advise (wsV RX5 128 RX5 yX5_kept wsX5_kept) := goodIn_app (goodIn_of _ (by decide +kernel)) ggX5_advise_X5_kept
set_option maxRecDepth 20000 in
theorem ggX5_advise_X5_nightsOn : GoodIn wsX5_advise wsX5_nightsOn := goodIn_r _ [28, 29, 30, 31, 6, 32, 33, 34, 35, 36, 37, 23, 38, 39, 40, 41, 2, 42, 24, 3, 17, 43, 44, 45, 46, 47, 48, 49, 50, 51, 52, 53, 54, 55, 56, 57, 58, 59, 60, 61, 62, 63, 64, 65, 66, 67, 68, 69, 70, 71, 72, 73, 74, 75, 76, 77, 78, 79, 80, 81, 82, 83, 84, 85, 86, 87, 88, 89, 90, 91, 92, 93, 98, 99, 100, 101, 102, 103, 104, 105, 106] (by decide +kernel) (by decide +kernel)
set_option maxRecDepth 20000 in
theorem gX5_advise_X5_nightsOn : GoodIn wsX5_advise (wsV RX5 120 RX5 yX5_nightsOn wsX5_nightsOn) := goodIn_app (goodIn_of _ (by decide +kernel)) ggX5_advise_X5_nightsOn
set_option maxRecDepth 20000 in
theorem ggX5_advise_X5_bringBack : GoodIn wsX5_advise wsX5_bringBack := goodIn_r _ [97, 16, 17, 23, 24, 3, 52, 53, 54, 55, 98, 99, 100, 101, 102, 103, 104, 105, 106] (by decide +kernel) (by decide +kernel)
set_option maxRecDepth 20000 in
theorem gX5_advise_X5_bringBack : GoodIn wsX5_advise (wsV RX5 132 RX5 yX5_bringBack wsX5_bringBack) := goodIn_app (goodIn_of _ (by decide +kernel)) ggX5_advise_X5_bringBack
theorem dX5_advise_0 : decode cX5_advise 0 = .ok (.aload_n 0, 1) := by decide +kernel
theorem dX5_advise_1 : decode cX5_advise 1 = .ok (.iconst 0, 1) := by decide +kernel
theorem dX5_advise_2 : decode cX5_advise 2 = .ok (.putfield 28, 3) := by decide +kernel
theorem dX5_advise_5 : decode cX5_advise 5 = .ok (.iload_n 1, 1) := by decide +kernel
theorem dX5_advise_6 : decode cX5_advise 6 = .ok (.iconst 1, 1) := by decide +kernel
theorem dX5_advise_7 : decode cX5_advise 7 = .ok (.bipush 30, 2) := by decide +kernel
theorem dX5_advise_9 : decode cX5_advise 9 = .ok (.invokestatic 32, 3) := by decide +kernel
theorem dX5_advise_12 : decode cX5_advise 12 = .ok (.ifCond .ne 9, 3) := by decide +kernel
theorem dX5_advise_15 : decode cX5_advise 15 = .ok (.aload_n 0, 1) := by decide +kernel
theorem dX5_advise_16 : decode cX5_advise 16 = .ok (.iconst 1, 1) := by decide +kernel
theorem dX5_advise_17 : decode cX5_advise 17 = .ok (.invokevirtual 52, 3) := by decide +kernel
theorem dX5_advise_20 : decode cX5_advise 20 = .ok (.ireturn, 1) := by decide +kernel
theorem dX5_advise_21 : decode cX5_advise 21 = .ok (.aload_n 0, 1) := by decide +kernel
theorem dX5_advise_22 : decode cX5_advise 22 = .ok (.invokevirtual 128, 3) := by decide +kernel
theorem dX5_advise_25 : decode cX5_advise 25 = .ok (.astore_n 2, 1) := by decide +kernel
theorem dX5_advise_26 : decode cX5_advise 26 = .ok (.iconst (-1), 1) := by decide +kernel
theorem dX5_advise_27 : decode cX5_advise 27 = .ok (.istore_n 3, 1) := by decide +kernel
theorem dX5_advise_28 : decode cX5_advise 28 = .ok (.aload_n 0, 1) := by decide +kernel
theorem dX5_advise_29 : decode cX5_advise 29 = .ok (.iload_n 1, 1) := by decide +kernel
theorem dX5_advise_30 : decode cX5_advise 30 = .ok (.invokevirtual 120, 3) := by decide +kernel
theorem dX5_advise_33 : decode cX5_advise 33 = .ok (.istore 4, 2) := by decide +kernel
theorem dX5_advise_35 : decode cX5_advise 35 = .ok (.aload_n 0, 1) := by decide +kernel
theorem dX5_advise_36 : decode cX5_advise 36 = .ok (.aload_n 2, 1) := by decide +kernel
theorem dX5_advise_37 : decode cX5_advise 37 = .ok (.invokevirtual 132, 3) := by decide +kernel
theorem dX5_advise_40 : decode cX5_advise 40 = .ok (.iconst 0, 1) := by decide +kernel
theorem dX5_advise_41 : decode cX5_advise 41 = .ok (.istore 5, 2) := by decide +kernel
theorem dX5_advise_43 : decode cX5_advise 43 = .ok (.iload 5, 2) := by decide +kernel
theorem dX5_advise_45 : decode cX5_advise 45 = .ok (.aload_n 0, 1) := by decide +kernel
theorem dX5_advise_46 : decode cX5_advise 46 = .ok (.getfield 36, 3) := by decide +kernel
theorem dX5_advise_49 : decode cX5_advise 49 = .ok (.if_icmp .ge 59, 3) := by decide +kernel
theorem dX5_advise_52 : decode cX5_advise 52 = .ok (.aload_n 0, 1) := by decide +kernel
theorem dX5_advise_53 : decode cX5_advise 53 = .ok (.getfield 16, 3) := by decide +kernel
theorem dX5_advise_56 : decode cX5_advise 56 = .ok (.iload 5, 2) := by decide +kernel
theorem dX5_advise_58 : decode cX5_advise 58 = .ok (.iaload, 1) := by decide +kernel
theorem dX5_advise_59 : decode cX5_advise 59 = .ok (.ifCond .ne 6, 3) := by decide +kernel
theorem dX5_advise_62 : decode cX5_advise 62 = .ok (.goto 40, 3) := by decide +kernel
theorem dX5_advise_65 : decode cX5_advise 65 = .ok (.aload_n 0, 1) := by decide +kernel
theorem dX5_advise_66 : decode cX5_advise 66 = .ok (.getfield 16, 3) := by decide +kernel
theorem dX5_advise_69 : decode cX5_advise 69 = .ok (.iload 5, 2) := by decide +kernel
theorem dX5_advise_71 : decode cX5_advise 71 = .ok (.iconst 0, 1) := by decide +kernel
theorem dX5_advise_72 : decode cX5_advise 72 = .ok (.iastore, 1) := by decide +kernel
theorem dX5_advise_73 : decode cX5_advise 73 = .ok (.aload_n 0, 1) := by decide +kernel
theorem dX5_advise_74 : decode cX5_advise 74 = .ok (.iload_n 1, 1) := by decide +kernel
theorem dX5_advise_75 : decode cX5_advise 75 = .ok (.invokevirtual 120, 3) := by decide +kernel
theorem dX5_advise_78 : decode cX5_advise 78 = .ok (.istore 6, 2) := by decide +kernel
theorem dX5_advise_80 : decode cX5_advise 80 = .ok (.aload_n 0, 1) := by decide +kernel
theorem dX5_advise_81 : decode cX5_advise 81 = .ok (.aload_n 2, 1) := by decide +kernel
theorem dX5_advise_82 : decode cX5_advise 82 = .ok (.invokevirtual 132, 3) := by decide +kernel
theorem dX5_advise_85 : decode cX5_advise 85 = .ok (.iload 6, 2) := by decide +kernel
theorem dX5_advise_87 : decode cX5_advise 87 = .ok (.iload 4, 2) := by decide +kernel
theorem dX5_advise_89 : decode cX5_advise 89 = .ok (.if_icmp .gt 6, 3) := by decide +kernel
theorem dX5_advise_92 : decode cX5_advise 92 = .ok (.goto 10, 3) := by decide +kernel
theorem dX5_advise_95 : decode cX5_advise 95 = .ok (.iload 5, 2) := by decide +kernel
theorem dX5_advise_97 : decode cX5_advise 97 = .ok (.istore_n 3, 1) := by decide +kernel
theorem dX5_advise_98 : decode cX5_advise 98 = .ok (.iload 6, 2) := by decide +kernel
theorem dX5_advise_100 : decode cX5_advise 100 = .ok (.istore 4, 2) := by decide +kernel
theorem dX5_advise_102 : decode cX5_advise 102 = .ok (.iinc 5 1, 3) := by decide +kernel
theorem dX5_advise_105 : decode cX5_advise 105 = .ok (.goto (-62), 3) := by decide +kernel
theorem dX5_advise_108 : decode cX5_advise 108 = .ok (.iload_n 3, 1) := by decide +kernel
theorem dX5_advise_109 : decode cX5_advise 109 = .ok (.ireturn, 1) := by decide +kernel
set_option maxRecDepth 20000 in
theorem ggX5_harm_X5_isIn : GoodIn wsX5_harm wsX5_isIn := goodIn_r _ [6] (by decide +kernel) (by decide +kernel)
set_option maxRecDepth 20000 in
theorem gX5_harm_X5_isIn : GoodIn wsX5_harm (va_wsS RX5 32 yX5_isIn wsX5_isIn) := goodIn_app (goodIn_of _ (by decide +kernel)) ggX5_harm_X5_isIn
set_option maxRecDepth 20000 in
theorem ggX5_harm_X5_fail : GoodIn wsX5_harm wsX5_fail := goodIn_r _ [10, 1, 102, 103, 104, 105, 106, 107, 108, 109, 110] (by decide +kernel) (by decide +kernel)
set_option maxRecDepth 20000 in
theorem gX5_harm_X5_fail : GoodIn wsX5_harm (wsV RX5 52 RX5 yX5_fail wsX5_fail) := goodIn_app (goodIn_of _ (by decide +kernel)) ggX5_harm_X5_fail
set_option maxRecDepth 20000 in
theorem ggX5_harm_X5_kept : GoodIn wsX5_harm wsX5_kept := goodIn_r _ [14, 15, 16, 17, 18, 19, 20, 21, 22, 23, 24, 102, 103, 104, 105, 106, 107, 108, 109, 110] (by decide +kernel) (by decide +kernel)
set_option maxRecDepth 20000 in
theorem gX5_harm_X5_kept : GoodIn wsX5_harm (wsV RX5 128 RX5 yX5_kept wsX5_kept) := goodIn_app (goodIn_of _ (by decide +kernel)) ggX5_harm_X5_kept
set_option maxRecDepth 20000 in
theorem ggX5_harm_X5_nightsOn : GoodIn wsX5_harm wsX5_nightsOn := goodIn_r _ [28, 29, 30, 31, 5, 32, 2, 33, 34, 35, 36, 22, 37, 38, 39, 40, 41, 42, 23, 24, 16, 43, 44, 45, 46, 47, 48, 49, 50, 51, 52, 53, 54, 55, 56, 57, 58, 59, 60, 61, 62, 63, 64, 65, 66, 67, 68, 69, 70, 71, 72, 73, 74, 75, 76, 77, 78, 79, 80, 81, 82, 83, 84, 85, 86, 87, 88, 89, 90, 91, 92, 93, 102, 103, 104, 105, 106, 107, 108, 109, 110] (by decide +kernel) (by decide +kernel)
set_option maxRecDepth 20000 in
theorem gX5_harm_X5_nightsOn : GoodIn wsX5_harm (wsV RX5 120 RX5 yX5_nightsOn wsX5_nightsOn) := goodIn_app (goodIn_of _ (by decide +kernel)) ggX5_harm_X5_nightsOn
set_option maxRecDepth 20000 in
theorem ggX5_harm_X5_flies : GoodIn wsX5_harm wsX5_flies := goodIn_r _ [97, 16, 102, 103, 104, 105, 106, 107, 108, 109, 110] (by decide +kernel) (by decide +kernel)
set_option maxRecDepth 20000 in
theorem gX5_harm_X5_flies : GoodIn wsX5_harm (wsV RX5 88 RX5 yX5_flies wsX5_flies) := goodIn_app (goodIn_of _ (by decide +kernel)) ggX5_harm_X5_flies
set_option maxRecDepth 20000 in
theorem ggX5_harm_X5_bringBack : GoodIn wsX5_harm wsX5_bringBack := goodIn_r _ [101, 15, 16, 22, 23, 24, 52, 53, 54, 55, 102, 103, 104, 105, 106, 107, 108, 109, 110] (by decide +kernel) (by decide +kernel)
set_option maxRecDepth 20000 in
theorem gX5_harm_X5_bringBack : GoodIn wsX5_harm (wsV RX5 132 RX5 yX5_bringBack wsX5_bringBack) := goodIn_app (goodIn_of _ (by decide +kernel)) ggX5_harm_X5_bringBack
set_option maxRecDepth 20000 in
theorem ggX5_harm_X5_pe : GoodIn wsX5_harm wsX5_pe := goodIn_r _ [36, 22, 102, 103, 104, 105, 106, 107, 108, 109, 110] (by decide +kernel) (by decide +kernel)
set_option maxRecDepth 20000 in
theorem gX5_harm_X5_pe : GoodIn wsX5_harm (wsV RX5 59 RX5 yX5_pe wsX5_pe) := goodIn_app (goodIn_of _ (by decide +kernel)) ggX5_harm_X5_pe
set_option maxRecDepth 20000 in
theorem ggX5_harm_X5_put : GoodIn wsX5_harm wsX5_put := goodIn_r _ [89, 22, 102, 103, 104, 105, 106, 107, 108, 109, 110] (by decide +kernel) (by decide +kernel)
set_option maxRecDepth 20000 in
theorem gX5_harm_X5_put : GoodIn wsX5_harm (wsV RX5 81 RX5 yX5_put wsX5_put) := goodIn_app (goodIn_of _ (by decide +kernel)) ggX5_harm_X5_put
theorem dX5_harm_0 : decode cX5_harm 0 = .ok (.aload_n 0, 1) := by decide +kernel
theorem dX5_harm_1 : decode cX5_harm 1 = .ok (.iconst 0, 1) := by decide +kernel
theorem dX5_harm_2 : decode cX5_harm 2 = .ok (.putfield 28, 3) := by decide +kernel
theorem dX5_harm_5 : decode cX5_harm 5 = .ok (.iload_n 1, 1) := by decide +kernel
theorem dX5_harm_6 : decode cX5_harm 6 = .ok (.iconst 1, 1) := by decide +kernel
theorem dX5_harm_7 : decode cX5_harm 7 = .ok (.bipush 30, 2) := by decide +kernel
theorem dX5_harm_9 : decode cX5_harm 9 = .ok (.invokestatic 32, 3) := by decide +kernel
theorem dX5_harm_12 : decode cX5_harm 12 = .ok (.ifCond .ne 9, 3) := by decide +kernel
theorem dX5_harm_15 : decode cX5_harm 15 = .ok (.aload_n 0, 1) := by decide +kernel
theorem dX5_harm_16 : decode cX5_harm 16 = .ok (.iconst 1, 1) := by decide +kernel
theorem dX5_harm_17 : decode cX5_harm 17 = .ok (.invokevirtual 52, 3) := by decide +kernel
theorem dX5_harm_20 : decode cX5_harm 20 = .ok (.ireturn, 1) := by decide +kernel
theorem dX5_harm_21 : decode cX5_harm 21 = .ok (.aload_n 0, 1) := by decide +kernel
theorem dX5_harm_22 : decode cX5_harm 22 = .ok (.invokevirtual 128, 3) := by decide +kernel
theorem dX5_harm_25 : decode cX5_harm 25 = .ok (.astore_n 2, 1) := by decide +kernel
theorem dX5_harm_26 : decode cX5_harm 26 = .ok (.aload_n 0, 1) := by decide +kernel
theorem dX5_harm_27 : decode cX5_harm 27 = .ok (.iload_n 1, 1) := by decide +kernel
theorem dX5_harm_28 : decode cX5_harm 28 = .ok (.invokevirtual 120, 3) := by decide +kernel
theorem dX5_harm_31 : decode cX5_harm 31 = .ok (.pop, 1) := by decide +kernel
theorem dX5_harm_32 : decode cX5_harm 32 = .ok (.iconst (-1), 1) := by decide +kernel
theorem dX5_harm_33 : decode cX5_harm 33 = .ok (.istore_n 3, 1) := by decide +kernel
theorem dX5_harm_34 : decode cX5_harm 34 = .ok (.aload_n 0, 1) := by decide +kernel
theorem dX5_harm_35 : decode cX5_harm 35 = .ok (.invokevirtual 88, 3) := by decide +kernel
theorem dX5_harm_38 : decode cX5_harm 38 = .ok (.istore 4, 2) := by decide +kernel
theorem dX5_harm_40 : decode cX5_harm 40 = .ok (.aload_n 0, 1) := by decide +kernel
theorem dX5_harm_41 : decode cX5_harm 41 = .ok (.aload_n 2, 1) := by decide +kernel
theorem dX5_harm_42 : decode cX5_harm 42 = .ok (.invokevirtual 132, 3) := by decide +kernel
theorem dX5_harm_45 : decode cX5_harm 45 = .ok (.iconst 0, 1) := by decide +kernel
theorem dX5_harm_46 : decode cX5_harm 46 = .ok (.istore 5, 2) := by decide +kernel
theorem dX5_harm_48 : decode cX5_harm 48 = .ok (.iload 5, 2) := by decide +kernel
theorem dX5_harm_50 : decode cX5_harm 50 = .ok (.aload_n 0, 1) := by decide +kernel
theorem dX5_harm_51 : decode cX5_harm 51 = .ok (.getfield 39, 3) := by decide +kernel
theorem dX5_harm_54 : decode cX5_harm 54 = .ok (.if_icmp .ge 64, 3) := by decide +kernel
theorem dX5_harm_57 : decode cX5_harm 57 = .ok (.aload_n 0, 1) := by decide +kernel
theorem dX5_harm_58 : decode cX5_harm 58 = .ok (.iload 5, 2) := by decide +kernel
theorem dX5_harm_60 : decode cX5_harm 60 = .ok (.iconst 2, 1) := by decide +kernel
theorem dX5_harm_61 : decode cX5_harm 61 = .ok (.invokevirtual 59, 3) := by decide +kernel
theorem dX5_harm_64 : decode cX5_harm 64 = .ok (.ifCond .ne 6, 3) := by decide +kernel
theorem dX5_harm_67 : decode cX5_harm 67 = .ok (.goto 45, 3) := by decide +kernel
theorem dX5_harm_70 : decode cX5_harm 70 = .ok (.aload_n 0, 1) := by decide +kernel
theorem dX5_harm_71 : decode cX5_harm 71 = .ok (.iload 5, 2) := by decide +kernel
theorem dX5_harm_73 : decode cX5_harm 73 = .ok (.iconst 2, 1) := by decide +kernel
theorem dX5_harm_74 : decode cX5_harm 74 = .ok (.iconst 0, 1) := by decide +kernel
theorem dX5_harm_75 : decode cX5_harm 75 = .ok (.invokevirtual 81, 3) := by decide +kernel
theorem dX5_harm_78 : decode cX5_harm 78 = .ok (.aload_n 0, 1) := by decide +kernel
theorem dX5_harm_79 : decode cX5_harm 79 = .ok (.iload_n 1, 1) := by decide +kernel
theorem dX5_harm_80 : decode cX5_harm 80 = .ok (.invokevirtual 120, 3) := by decide +kernel
theorem dX5_harm_83 : decode cX5_harm 83 = .ok (.pop, 1) := by decide +kernel
theorem dX5_harm_84 : decode cX5_harm 84 = .ok (.aload_n 0, 1) := by decide +kernel
theorem dX5_harm_85 : decode cX5_harm 85 = .ok (.invokevirtual 88, 3) := by decide +kernel
theorem dX5_harm_88 : decode cX5_harm 88 = .ok (.istore 6, 2) := by decide +kernel
theorem dX5_harm_90 : decode cX5_harm 90 = .ok (.aload_n 0, 1) := by decide +kernel
theorem dX5_harm_91 : decode cX5_harm 91 = .ok (.aload_n 2, 1) := by decide +kernel
theorem dX5_harm_92 : decode cX5_harm 92 = .ok (.invokevirtual 132, 3) := by decide +kernel
theorem dX5_harm_95 : decode cX5_harm 95 = .ok (.iload 6, 2) := by decide +kernel
theorem dX5_harm_97 : decode cX5_harm 97 = .ok (.iload 4, 2) := by decide +kernel
theorem dX5_harm_99 : decode cX5_harm 99 = .ok (.if_icmp .gt 6, 3) := by decide +kernel
theorem dX5_harm_102 : decode cX5_harm 102 = .ok (.goto 10, 3) := by decide +kernel
theorem dX5_harm_105 : decode cX5_harm 105 = .ok (.iload 5, 2) := by decide +kernel
theorem dX5_harm_107 : decode cX5_harm 107 = .ok (.istore_n 3, 1) := by decide +kernel
theorem dX5_harm_108 : decode cX5_harm 108 = .ok (.iload 6, 2) := by decide +kernel
theorem dX5_harm_110 : decode cX5_harm 110 = .ok (.istore 4, 2) := by decide +kernel
theorem dX5_harm_112 : decode cX5_harm 112 = .ok (.iinc 5 1, 3) := by decide +kernel
theorem dX5_harm_115 : decode cX5_harm 115 = .ok (.goto (-67), 3) := by decide +kernel
theorem dX5_harm_118 : decode cX5_harm 118 = .ok (.iload_n 3, 1) := by decide +kernel
theorem dX5_harm_119 : decode cX5_harm 119 = .ok (.ireturn, 1) := by decide +kernel
set_option maxRecDepth 20000 in
theorem ggX5_mean_X5_all : GoodIn wsX5_mean wsX5_all := goodIn_r _ [7, 2, 8, 9, 10, 6, 11, 12, 13, 14, 15, 16, 17, 18, 19, 20, 21] (by decide +kernel) (by decide +kernel)
set_option maxRecDepth 20000 in
theorem gX5_mean_X5_all : GoodIn wsX5_mean (wsV RX5 92 RX5 yX5_all wsX5_all) := goodIn_app (goodIn_of _ (by decide +kernel)) ggX5_mean_X5_all
theorem dX5_mean_0 : decode cX5_mean 0 = .ok (.aload_n 0, 1) := by decide +kernel
theorem dX5_mean_1 : decode cX5_mean 1 = .ok (.iconst 0, 1) := by decide +kernel
theorem dX5_mean_2 : decode cX5_mean 2 = .ok (.putfield 28, 3) := by decide +kernel
theorem dX5_mean_5 : decode cX5_mean 5 = .ok (.aload_n 0, 1) := by decide +kernel
theorem dX5_mean_6 : decode cX5_mean 6 = .ok (.getfield 39, 3) := by decide +kernel
theorem dX5_mean_9 : decode cX5_mean 9 = .ok (.ifCond .ne 7, 3) := by decide +kernel
theorem dX5_mean_12 : decode cX5_mean 12 = .ok (.dconst 0, 1) := by decide +kernel
theorem dX5_mean_13 : decode cX5_mean 13 = .ok (.goto 15, 3) := by decide +kernel
theorem dX5_mean_16 : decode cX5_mean 16 = .ok (.aload_n 0, 1) := by decide +kernel
theorem dX5_mean_17 : decode cX5_mean 17 = .ok (.iconst 4, 1) := by decide +kernel
theorem dX5_mean_18 : decode cX5_mean 18 = .ok (.invokevirtual 92, 3) := by decide +kernel
theorem dX5_mean_21 : decode cX5_mean 21 = .ok (.i2d, 1) := by decide +kernel
theorem dX5_mean_22 : decode cX5_mean 22 = .ok (.aload_n 0, 1) := by decide +kernel
theorem dX5_mean_23 : decode cX5_mean 23 = .ok (.getfield 39, 3) := by decide +kernel
theorem dX5_mean_26 : decode cX5_mean 26 = .ok (.i2d, 1) := by decide +kernel
theorem dX5_mean_27 : decode cX5_mean 27 = .ok (.ddiv, 1) := by decide +kernel
theorem dX5_mean_28 : decode cX5_mean 28 = .ok (.dreturn, 1) := by decide +kernel
set_option maxRecDepth 20000 in
theorem ggX5_digest_X5_counted : GoodIn wsX5_digest wsX5_counted := goodIn_r _ [11, 12, 5, 13, 6, 14, 15, 10, 16, 17, 18, 19, 20, 21, 22, 23, 24, 4, 25, 26, 27, 28, 29, 30, 31, 32, 33, 34, 35, 36, 37, 38, 47, 48, 49, 50, 51, 52, 53, 54, 55] (by decide +kernel) (by decide +kernel)
set_option maxRecDepth 20000 in
theorem gX5_digest_X5_counted : GoodIn wsX5_digest (wsV RX5 95 RX5 yX5_counted wsX5_counted) := goodIn_app (goodIn_of _ (by decide +kernel)) ggX5_digest_X5_counted
set_option maxRecDepth 20000 in
theorem ggX5_digest_X5_roomTold : GoodIn wsX5_digest wsX5_roomTold := goodIn_r _ [42, 38, 13, 6, 43, 44, 45, 10, 46, 29, 30, 31, 32, 33, 47, 48, 49, 50, 51, 52, 53, 54, 55] (by decide +kernel) (by decide +kernel)
set_option maxRecDepth 20000 in
theorem gX5_digest_X5_roomTold : GoodIn wsX5_digest (wsV RX5 66 RX5 yX5_roomTold wsX5_roomTold) := goodIn_app (goodIn_of _ (by decide +kernel)) ggX5_digest_X5_roomTold
set_option maxRecDepth 20000 in
theorem ggX5_digest_X5_pe : GoodIn wsX5_digest wsX5_pe := goodIn_r _ [32, 33, 47, 48, 49, 50, 51, 52, 53, 54, 55] (by decide +kernel) (by decide +kernel)
set_option maxRecDepth 20000 in
theorem gX5_digest_X5_pe : GoodIn wsX5_digest (wsV RX5 59 RX5 yX5_pe wsX5_pe) := goodIn_app (goodIn_of _ (by decide +kernel)) ggX5_digest_X5_pe
theorem dX5_digest_0 : decode cX5_digest 0 = .ok (.aload_n 0, 1) := by decide +kernel
theorem dX5_digest_1 : decode cX5_digest 1 = .ok (.iconst 0, 1) := by decide +kernel
theorem dX5_digest_2 : decode cX5_digest 2 = .ok (.putfield 28, 3) := by decide +kernel
theorem dX5_digest_5 : decode cX5_digest 5 = .ok (.ldc2_w 136, 3) := by decide +kernel
theorem dX5_digest_8 : decode cX5_digest 8 = .ok (.lstore_n 1, 1) := by decide +kernel
theorem dX5_digest_9 : decode cX5_digest 9 = .ok (.iconst 0, 1) := by decide +kernel
theorem dX5_digest_10 : decode cX5_digest 10 = .ok (.istore_n 3, 1) := by decide +kernel
theorem dX5_digest_11 : decode cX5_digest 11 = .ok (.iload_n 3, 1) := by decide +kernel
theorem dX5_digest_12 : decode cX5_digest 12 = .ok (.bipush 9, 2) := by decide +kernel
theorem dX5_digest_14 : decode cX5_digest 14 = .ok (.if_icmp .ge 22, 3) := by decide +kernel
theorem dX5_digest_17 : decode cX5_digest 17 = .ok (.lload_n 1, 1) := by decide +kernel
theorem dX5_digest_18 : decode cX5_digest 18 = .ok (.ldc2_w 138, 3) := by decide +kernel
theorem dX5_digest_21 : decode cX5_digest 21 = .ok (.lmul, 1) := by decide +kernel
theorem dX5_digest_22 : decode cX5_digest 22 = .ok (.aload_n 0, 1) := by decide +kernel
theorem dX5_digest_23 : decode cX5_digest 23 = .ok (.iload_n 3, 1) := by decide +kernel
theorem dX5_digest_24 : decode cX5_digest 24 = .ok (.invokevirtual 95, 3) := by decide +kernel
theorem dX5_digest_27 : decode cX5_digest 27 = .ok (.i2l, 1) := by decide +kernel
theorem dX5_digest_28 : decode cX5_digest 28 = .ok (.ladd, 1) := by decide +kernel
theorem dX5_digest_29 : decode cX5_digest 29 = .ok (.lstore_n 1, 1) := by decide +kernel
theorem dX5_digest_30 : decode cX5_digest 30 = .ok (.iinc 3 1, 3) := by decide +kernel
theorem dX5_digest_33 : decode cX5_digest 33 = .ok (.goto (-22), 3) := by decide +kernel
theorem dX5_digest_36 : decode cX5_digest 36 = .ok (.aload_n 0, 1) := by decide +kernel
theorem dX5_digest_37 : decode cX5_digest 37 = .ok (.getfield 9, 3) := by decide +kernel
theorem dX5_digest_40 : decode cX5_digest 40 = .ok (.astore_n 3, 1) := by decide +kernel
theorem dX5_digest_41 : decode cX5_digest 41 = .ok (.aload_n 3, 1) := by decide +kernel
theorem dX5_digest_42 : decode cX5_digest 42 = .ok (.arraylength, 1) := by decide +kernel
theorem dX5_digest_43 : decode cX5_digest 43 = .ok (.istore 4, 2) := by decide +kernel
theorem dX5_digest_45 : decode cX5_digest 45 = .ok (.iconst 0, 1) := by decide +kernel
theorem dX5_digest_46 : decode cX5_digest 46 = .ok (.istore 5, 2) := by decide +kernel
theorem dX5_digest_48 : decode cX5_digest 48 = .ok (.iload 5, 2) := by decide +kernel
theorem dX5_digest_50 : decode cX5_digest 50 = .ok (.iload 4, 2) := by decide +kernel
theorem dX5_digest_52 : decode cX5_digest 52 = .ok (.if_icmp .ge 25, 3) := by decide +kernel
theorem dX5_digest_55 : decode cX5_digest 55 = .ok (.aload_n 3, 1) := by decide +kernel
theorem dX5_digest_56 : decode cX5_digest 56 = .ok (.iload 5, 2) := by decide +kernel
theorem dX5_digest_58 : decode cX5_digest 58 = .ok (.iaload, 1) := by decide +kernel
theorem dX5_digest_59 : decode cX5_digest 59 = .ok (.istore 6, 2) := by decide +kernel
theorem dX5_digest_61 : decode cX5_digest 61 = .ok (.lload_n 1, 1) := by decide +kernel
theorem dX5_digest_62 : decode cX5_digest 62 = .ok (.ldc2_w 138, 3) := by decide +kernel
theorem dX5_digest_65 : decode cX5_digest 65 = .ok (.lmul, 1) := by decide +kernel
theorem dX5_digest_66 : decode cX5_digest 66 = .ok (.iload 6, 2) := by decide +kernel
theorem dX5_digest_68 : decode cX5_digest 68 = .ok (.i2l, 1) := by decide +kernel
theorem dX5_digest_69 : decode cX5_digest 69 = .ok (.ladd, 1) := by decide +kernel
theorem dX5_digest_70 : decode cX5_digest 70 = .ok (.lstore_n 1, 1) := by decide +kernel
theorem dX5_digest_71 : decode cX5_digest 71 = .ok (.iinc 5 1, 3) := by decide +kernel
theorem dX5_digest_74 : decode cX5_digest 74 = .ok (.goto (-26), 3) := by decide +kernel
theorem dX5_digest_77 : decode cX5_digest 77 = .ok (.iconst 0, 1) := by decide +kernel
theorem dX5_digest_78 : decode cX5_digest 78 = .ok (.istore_n 3, 1) := by decide +kernel
theorem dX5_digest_79 : decode cX5_digest 79 = .ok (.iload_n 3, 1) := by decide +kernel
theorem dX5_digest_80 : decode cX5_digest 80 = .ok (.aload_n 0, 1) := by decide +kernel
theorem dX5_digest_81 : decode cX5_digest 81 = .ok (.getfield 36, 3) := by decide +kernel
theorem dX5_digest_84 : decode cX5_digest 84 = .ok (.if_icmp .ge 39, 3) := by decide +kernel
theorem dX5_digest_87 : decode cX5_digest 87 = .ok (.iconst 0, 1) := by decide +kernel
theorem dX5_digest_88 : decode cX5_digest 88 = .ok (.istore 4, 2) := by decide +kernel
theorem dX5_digest_90 : decode cX5_digest 90 = .ok (.iload 4, 2) := by decide +kernel
theorem dX5_digest_92 : decode cX5_digest 92 = .ok (.iconst 5, 1) := by decide +kernel
theorem dX5_digest_93 : decode cX5_digest 93 = .ok (.if_icmp .ge 24, 3) := by decide +kernel
theorem dX5_digest_96 : decode cX5_digest 96 = .ok (.lload_n 1, 1) := by decide +kernel
theorem dX5_digest_97 : decode cX5_digest 97 = .ok (.ldc2_w 138, 3) := by decide +kernel
theorem dX5_digest_100 : decode cX5_digest 100 = .ok (.lmul, 1) := by decide +kernel
theorem dX5_digest_101 : decode cX5_digest 101 = .ok (.aload_n 0, 1) := by decide +kernel
theorem dX5_digest_102 : decode cX5_digest 102 = .ok (.iload_n 3, 1) := by decide +kernel
theorem dX5_digest_103 : decode cX5_digest 103 = .ok (.iload 4, 2) := by decide +kernel
theorem dX5_digest_105 : decode cX5_digest 105 = .ok (.invokevirtual 66, 3) := by decide +kernel
theorem dX5_digest_108 : decode cX5_digest 108 = .ok (.i2l, 1) := by decide +kernel
theorem dX5_digest_109 : decode cX5_digest 109 = .ok (.ladd, 1) := by decide +kernel
theorem dX5_digest_110 : decode cX5_digest 110 = .ok (.lstore_n 1, 1) := by decide +kernel
theorem dX5_digest_111 : decode cX5_digest 111 = .ok (.iinc 4 1, 3) := by decide +kernel
theorem dX5_digest_114 : decode cX5_digest 114 = .ok (.goto (-24), 3) := by decide +kernel
theorem dX5_digest_117 : decode cX5_digest 117 = .ok (.iinc 3 1, 3) := by decide +kernel
theorem dX5_digest_120 : decode cX5_digest 120 = .ok (.goto (-41), 3) := by decide +kernel
theorem dX5_digest_123 : decode cX5_digest 123 = .ok (.iconst 0, 1) := by decide +kernel
theorem dX5_digest_124 : decode cX5_digest 124 = .ok (.istore_n 3, 1) := by decide +kernel
theorem dX5_digest_125 : decode cX5_digest 125 = .ok (.iload_n 3, 1) := by decide +kernel
theorem dX5_digest_126 : decode cX5_digest 126 = .ok (.aload_n 0, 1) := by decide +kernel
theorem dX5_digest_127 : decode cX5_digest 127 = .ok (.getfield 39, 3) := by decide +kernel
theorem dX5_digest_130 : decode cX5_digest 130 = .ok (.if_icmp .ge 40, 3) := by decide +kernel
theorem dX5_digest_133 : decode cX5_digest 133 = .ok (.iconst 0, 1) := by decide +kernel
theorem dX5_digest_134 : decode cX5_digest 134 = .ok (.istore 4, 2) := by decide +kernel
theorem dX5_digest_136 : decode cX5_digest 136 = .ok (.iload 4, 2) := by decide +kernel
theorem dX5_digest_138 : decode cX5_digest 138 = .ok (.bipush 6, 2) := by decide +kernel
theorem dX5_digest_140 : decode cX5_digest 140 = .ok (.if_icmp .ge 24, 3) := by decide +kernel
theorem dX5_digest_143 : decode cX5_digest 143 = .ok (.lload_n 1, 1) := by decide +kernel
theorem dX5_digest_144 : decode cX5_digest 144 = .ok (.ldc2_w 138, 3) := by decide +kernel
theorem dX5_digest_147 : decode cX5_digest 147 = .ok (.lmul, 1) := by decide +kernel
theorem dX5_digest_148 : decode cX5_digest 148 = .ok (.aload_n 0, 1) := by decide +kernel
theorem dX5_digest_149 : decode cX5_digest 149 = .ok (.iload_n 3, 1) := by decide +kernel
theorem dX5_digest_150 : decode cX5_digest 150 = .ok (.iload 4, 2) := by decide +kernel
theorem dX5_digest_152 : decode cX5_digest 152 = .ok (.invokevirtual 59, 3) := by decide +kernel
theorem dX5_digest_155 : decode cX5_digest 155 = .ok (.i2l, 1) := by decide +kernel
theorem dX5_digest_156 : decode cX5_digest 156 = .ok (.ladd, 1) := by decide +kernel
theorem dX5_digest_157 : decode cX5_digest 157 = .ok (.lstore_n 1, 1) := by decide +kernel
theorem dX5_digest_158 : decode cX5_digest 158 = .ok (.iinc 4 1, 3) := by decide +kernel
theorem dX5_digest_161 : decode cX5_digest 161 = .ok (.goto (-25), 3) := by decide +kernel
theorem dX5_digest_164 : decode cX5_digest 164 = .ok (.iinc 3 1, 3) := by decide +kernel
theorem dX5_digest_167 : decode cX5_digest 167 = .ok (.goto (-42), 3) := by decide +kernel
theorem dX5_digest_170 : decode cX5_digest 170 = .ok (.lload_n 1, 1) := by decide +kernel
theorem dX5_digest_171 : decode cX5_digest 171 = .ok (.lreturn, 1) := by decide +kernel
theorem dJ9_abs_0f7a4_0 : decode cJ9_abs_0f7a4 0 = .ok (.iload_n 0, 1) := by decide +kernel
theorem dJ9_abs_0f7a4_1 : decode cJ9_abs_0f7a4 1 = .ok (.ifCond .ge 8, 3) := by decide +kernel
theorem dJ9_abs_0f7a4_4 : decode cJ9_abs_0f7a4 4 = .ok (.iload_n 0, 1) := by decide +kernel
theorem dJ9_abs_0f7a4_5 : decode cJ9_abs_0f7a4 5 = .ok (.ineg, 1) := by decide +kernel
theorem dJ9_abs_0f7a4_6 : decode cJ9_abs_0f7a4 6 = .ok (.goto 4, 3) := by decide +kernel
theorem dJ9_abs_0f7a4_9 : decode cJ9_abs_0f7a4 9 = .ok (.iload_n 0, 1) := by decide +kernel
theorem dJ9_abs_0f7a4_10 : decode cJ9_abs_0f7a4 10 = .ok (.ireturn, 1) := by decide +kernel
theorem dJ9_min_7cf53_0 : decode cJ9_min_7cf53 0 = .ok (.iload_n 0, 1) := by decide +kernel
theorem dJ9_min_7cf53_1 : decode cJ9_min_7cf53 1 = .ok (.iload_n 1, 1) := by decide +kernel
theorem dJ9_min_7cf53_2 : decode cJ9_min_7cf53 2 = .ok (.if_icmp .gt 7, 3) := by decide +kernel
theorem dJ9_min_7cf53_5 : decode cJ9_min_7cf53 5 = .ok (.iload_n 0, 1) := by decide +kernel
theorem dJ9_min_7cf53_6 : decode cJ9_min_7cf53 6 = .ok (.goto 4, 3) := by decide +kernel
theorem dJ9_min_7cf53_9 : decode cJ9_min_7cf53 9 = .ok (.iload_n 1, 1) := by decide +kernel
theorem dJ9_min_7cf53_10 : decode cJ9_min_7cf53 10 = .ok (.ireturn, 1) := by decide +kernel
set_option maxRecDepth 20000 in
theorem ggL_swarm_X4_swarm : GoodIn wsL_swarm wsX4_swarm := goodIn_ca (goodIn_ca (goodIn_r _ [7, 8, 9, 10, 6, 11, 12, 13, 14, 15, 16, 17, 18, 19, 20, 21, 22, 23, 24, 25, 26, 27, 28, 29, 30, 31, 32, 33, 34, 35, 36, 37, 38, 39, 40, 41, 42, 43, 44] (by decide +kernel) (by decide +kernel)) (goodIn_sub (fun _ h => List.mem_cons_of_mem _ (List.mem_append_left _ (List.mem_append_right _ h))) (by decide +kernel))) (goodIn_sub (fun _ h => List.mem_cons_of_mem _ (List.mem_append_right _ h)) (by decide +kernel))
set_option maxRecDepth 20000 in
theorem gL_swarm_X4_swarm : GoodIn wsL_swarm (wsV RL 7 RX4 yX4_swarm wsX4_swarm) := goodIn_app (goodIn_of _ (by decide +kernel)) ggL_swarm_X4_swarm
theorem dL_swarm_0 : decode cL_swarm 0 = .ok (.aload 4, 2) := by decide +kernel
theorem dL_swarm_2 : decode cL_swarm 2 = .ok (.iconst 0, 1) := by decide +kernel
theorem dL_swarm_3 : decode cL_swarm 3 = .ok (.aload_n 0, 1) := by decide +kernel
theorem dL_swarm_4 : decode cL_swarm 4 = .ok (.iload_n 1, 1) := by decide +kernel
theorem dL_swarm_5 : decode cL_swarm 5 = .ok (.iload_n 2, 1) := by decide +kernel
theorem dL_swarm_6 : decode cL_swarm 6 = .ok (.iload_n 3, 1) := by decide +kernel
theorem dL_swarm_7 : decode cL_swarm 7 = .ok (.invokevirtual 7, 3) := by decide +kernel
theorem dL_swarm_10 : decode cL_swarm 10 = .ok (.i2l, 1) := by decide +kernel
theorem dL_swarm_11 : decode cL_swarm 11 = .ok (.lastore, 1) := by decide +kernel
theorem dL_swarm_12 : decode cL_swarm 12 = .ok (.goto 11, 3) := by decide +kernel
theorem dL_swarm_15 : decode cL_swarm 15 = .ok (.astore 5, 2) := by decide +kernel
theorem dL_swarm_17 : decode cL_swarm 17 = .ok (.iconst 1, 1) := by decide +kernel
theorem dL_swarm_18 : decode cL_swarm 18 = .ok (.ireturn, 1) := by decide +kernel
theorem dL_swarm_19 : decode cL_swarm 19 = .ok (.astore 5, 2) := by decide +kernel
theorem dL_swarm_21 : decode cL_swarm 21 = .ok (.iconst 2, 1) := by decide +kernel
theorem dL_swarm_22 : decode cL_swarm 22 = .ok (.ireturn, 1) := by decide +kernel
theorem dL_swarm_23 : decode cL_swarm 23 = .ok (.iconst 0, 1) := by decide +kernel
theorem dL_swarm_24 : decode cL_swarm 24 = .ok (.ireturn, 1) := by decide +kernel
set_option maxRecDepth 20000 in
theorem ggL_cell_X4_cell : GoodIn wsL_cell wsX4_cell := goodIn_ca (goodIn_r _ [6, 7, 8, 9, 5, 10, 11, 12, 13, 14, 15, 16, 17, 18, 19, 20, 21, 22, 23, 24, 25, 26, 27, 28, 29, 30] (by decide +kernel) (by decide +kernel)) (goodIn_sub (fun _ h => List.mem_cons_of_mem _ (List.mem_append_right _ h)) (by decide +kernel))
set_option maxRecDepth 20000 in
theorem gL_cell_X4_cell : GoodIn wsL_cell (wsV RL 17 RX4 yX4_cell wsX4_cell) := goodIn_app (goodIn_of _ (by decide +kernel)) ggL_cell_X4_cell
theorem dL_cell_0 : decode cL_cell 0 = .ok (.aload_n 3, 1) := by decide +kernel
theorem dL_cell_1 : decode cL_cell 1 = .ok (.iconst 0, 1) := by decide +kernel
theorem dL_cell_2 : decode cL_cell 2 = .ok (.aload_n 0, 1) := by decide +kernel
theorem dL_cell_3 : decode cL_cell 3 = .ok (.iload_n 1, 1) := by decide +kernel
theorem dL_cell_4 : decode cL_cell 4 = .ok (.iload_n 2, 1) := by decide +kernel
theorem dL_cell_5 : decode cL_cell 5 = .ok (.invokevirtual 17, 3) := by decide +kernel
theorem dL_cell_8 : decode cL_cell 8 = .ok (.i2l, 1) := by decide +kernel
theorem dL_cell_9 : decode cL_cell 9 = .ok (.lastore, 1) := by decide +kernel
theorem dL_cell_10 : decode cL_cell 10 = .ok (.goto 7, 3) := by decide +kernel
theorem dL_cell_13 : decode cL_cell 13 = .ok (.astore 4, 2) := by decide +kernel
theorem dL_cell_15 : decode cL_cell 15 = .ok (.iconst 1, 1) := by decide +kernel
theorem dL_cell_16 : decode cL_cell 16 = .ok (.ireturn, 1) := by decide +kernel
theorem dL_cell_17 : decode cL_cell 17 = .ok (.iconst 0, 1) := by decide +kernel
theorem dL_cell_18 : decode cL_cell 18 = .ok (.ireturn, 1) := by decide +kernel
set_option maxRecDepth 20000 in
theorem ggL_open_X4_open : GoodIn wsL_open wsX4_open := goodIn_ca (goodIn_ca (goodIn_r _ [7, 8, 9, 10, 11, 12, 6, 13, 14, 15, 16, 17, 18, 19, 20, 21, 22, 23, 24, 25, 26, 27, 28, 29, 30, 31, 32, 33, 34, 35, 36, 37, 38] (by decide +kernel) (by decide +kernel)) (goodIn_sub (fun _ h => List.mem_cons_of_mem _ (List.mem_append_left _ (List.mem_append_right _ h))) (by decide +kernel))) (goodIn_sub (fun _ h => List.mem_cons_of_mem _ (List.mem_append_right _ h)) (by decide +kernel))
set_option maxRecDepth 20000 in
theorem gL_open_X4_open : GoodIn wsL_open (wsV RL 21 RX4 yX4_open wsX4_open) := goodIn_app (goodIn_of _ (by decide +kernel)) ggL_open_X4_open
theorem dL_open_0 : decode cL_open 0 = .ok (.aload_n 2, 1) := by decide +kernel
theorem dL_open_1 : decode cL_open 1 = .ok (.iconst 0, 1) := by decide +kernel
theorem dL_open_2 : decode cL_open 2 = .ok (.aload_n 0, 1) := by decide +kernel
theorem dL_open_3 : decode cL_open 3 = .ok (.iload_n 1, 1) := by decide +kernel
theorem dL_open_4 : decode cL_open 4 = .ok (.invokevirtual 21, 3) := by decide +kernel
theorem dL_open_7 : decode cL_open 7 = .ok (.i2l, 1) := by decide +kernel
theorem dL_open_8 : decode cL_open 8 = .ok (.lastore, 1) := by decide +kernel
theorem dL_open_9 : decode cL_open 9 = .ok (.goto 9, 3) := by decide +kernel
theorem dL_open_12 : decode cL_open 12 = .ok (.astore_n 3, 1) := by decide +kernel
theorem dL_open_13 : decode cL_open 13 = .ok (.iconst 1, 1) := by decide +kernel
theorem dL_open_14 : decode cL_open 14 = .ok (.ireturn, 1) := by decide +kernel
theorem dL_open_15 : decode cL_open 15 = .ok (.astore_n 3, 1) := by decide +kernel
theorem dL_open_16 : decode cL_open 16 = .ok (.iconst 2, 1) := by decide +kernel
theorem dL_open_17 : decode cL_open 17 = .ok (.ireturn, 1) := by decide +kernel
theorem dL_open_18 : decode cL_open 18 = .ok (.iconst 0, 1) := by decide +kernel
theorem dL_open_19 : decode cL_open 19 = .ok (.ireturn, 1) := by decide +kernel
set_option maxRecDepth 20000 in
theorem ggL_lamp_X4_lamp : GoodIn wsL_lamp wsX4_lamp := goodIn_ca (goodIn_r _ [6, 7, 8, 9, 10, 5, 11, 12, 13, 14, 15, 16, 17, 18, 19, 20, 21, 22, 23, 24, 25, 26, 27, 28, 29, 30, 31, 32, 33, 34, 35, 36, 37, 38, 39, 40] (by decide +kernel) (by decide +kernel)) (goodIn_sub (fun _ h => List.mem_cons_of_mem _ (List.mem_append_right _ h)) (by decide +kernel))
set_option maxRecDepth 20000 in
theorem gL_lamp_X4_lamp : GoodIn wsL_lamp (wsV RL 27 RX4 yX4_lamp wsX4_lamp) := goodIn_app (goodIn_of _ (by decide +kernel)) ggL_lamp_X4_lamp
theorem dL_lamp_0 : decode cL_lamp 0 = .ok (.aload_n 2, 1) := by decide +kernel
theorem dL_lamp_1 : decode cL_lamp 1 = .ok (.iconst 0, 1) := by decide +kernel
theorem dL_lamp_2 : decode cL_lamp 2 = .ok (.aload_n 0, 1) := by decide +kernel
theorem dL_lamp_3 : decode cL_lamp 3 = .ok (.iload_n 1, 1) := by decide +kernel
theorem dL_lamp_4 : decode cL_lamp 4 = .ok (.invokevirtual 27, 3) := by decide +kernel
theorem dL_lamp_7 : decode cL_lamp 7 = .ok (.ifCond .eq 7, 3) := by decide +kernel
theorem dL_lamp_10 : decode cL_lamp 10 = .ok (.lconst 1, 1) := by decide +kernel
theorem dL_lamp_11 : decode cL_lamp 11 = .ok (.goto 4, 3) := by decide +kernel
theorem dL_lamp_14 : decode cL_lamp 14 = .ok (.lconst 0, 1) := by decide +kernel
theorem dL_lamp_15 : decode cL_lamp 15 = .ok (.lastore, 1) := by decide +kernel
theorem dL_lamp_16 : decode cL_lamp 16 = .ok (.goto 6, 3) := by decide +kernel
theorem dL_lamp_19 : decode cL_lamp 19 = .ok (.astore_n 3, 1) := by decide +kernel
theorem dL_lamp_20 : decode cL_lamp 20 = .ok (.iconst 1, 1) := by decide +kernel
theorem dL_lamp_21 : decode cL_lamp 21 = .ok (.ireturn, 1) := by decide +kernel
theorem dL_lamp_22 : decode cL_lamp 22 = .ok (.iconst 0, 1) := by decide +kernel
theorem dL_lamp_23 : decode cL_lamp 23 = .ok (.ireturn, 1) := by decide +kernel
set_option maxRecDepth 20000 in
theorem ggL_room_X4_room : GoodIn wsL_room wsX4_room := goodIn_ca (goodIn_r _ [6, 7, 8, 9, 10, 5, 11, 12, 13, 14, 15, 16, 17, 18, 19, 20, 21, 22, 23, 24, 25, 26, 27, 28, 29, 30, 31, 32, 33, 34, 35, 36, 37, 38, 39, 40, 41, 42, 43, 44, 45, 46, 47, 48, 49, 50, 51, 52, 53, 54, 55, 56, 57, 58, 59, 60, 61, 62, 63, 64, 65, 66, 67, 68, 69, 70, 71, 72, 73, 74, 75] (by decide +kernel) (by decide +kernel)) (goodIn_sub (fun _ h => List.mem_cons_of_mem _ (List.mem_append_right _ h)) (by decide +kernel))
set_option maxRecDepth 20000 in
theorem gL_room_X4_room : GoodIn wsL_room (wsV RL 31 RX4 yX4_room wsX4_room) := goodIn_app (goodIn_of _ (by decide +kernel)) ggL_room_X4_room
theorem dL_room_0 : decode cL_room 0 = .ok (.aload_n 3, 1) := by decide +kernel
theorem dL_room_1 : decode cL_room 1 = .ok (.iconst 0, 1) := by decide +kernel
theorem dL_room_2 : decode cL_room 2 = .ok (.aload_n 0, 1) := by decide +kernel
theorem dL_room_3 : decode cL_room 3 = .ok (.iload_n 1, 1) := by decide +kernel
theorem dL_room_4 : decode cL_room 4 = .ok (.iload_n 2, 1) := by decide +kernel
theorem dL_room_5 : decode cL_room 5 = .ok (.invokevirtual 31, 3) := by decide +kernel
theorem dL_room_8 : decode cL_room 8 = .ok (.i2l, 1) := by decide +kernel
theorem dL_room_9 : decode cL_room 9 = .ok (.lastore, 1) := by decide +kernel
theorem dL_room_10 : decode cL_room 10 = .ok (.goto 7, 3) := by decide +kernel
theorem dL_room_13 : decode cL_room 13 = .ok (.astore 4, 2) := by decide +kernel
theorem dL_room_15 : decode cL_room 15 = .ok (.iconst 1, 1) := by decide +kernel
theorem dL_room_16 : decode cL_room 16 = .ok (.ireturn, 1) := by decide +kernel
theorem dL_room_17 : decode cL_room 17 = .ok (.iconst 0, 1) := by decide +kernel
theorem dL_room_18 : decode cL_room 18 = .ok (.ireturn, 1) := by decide +kernel
set_option maxRecDepth 20000 in
theorem ggL_isLit_X4_isLit : GoodIn wsL_isLit wsX4_isLit := goodIn_ca (goodIn_r _ [6, 7, 8, 9, 5, 10, 11, 12, 13, 14, 15, 16, 17, 18, 19, 20, 21, 22, 23, 24, 25, 26, 27, 28, 29, 30, 31, 32, 33, 34] (by decide +kernel) (by decide +kernel)) (goodIn_sub (fun _ h => List.mem_cons_of_mem _ (List.mem_append_right _ h)) (by decide +kernel))
set_option maxRecDepth 20000 in
theorem gL_isLit_X4_isLit : GoodIn wsL_isLit (wsV RL 34 RX4 yX4_isLit wsX4_isLit) := goodIn_app (goodIn_of _ (by decide +kernel)) ggL_isLit_X4_isLit
theorem dL_isLit_0 : decode cL_isLit 0 = .ok (.aload_n 2, 1) := by decide +kernel
theorem dL_isLit_1 : decode cL_isLit 1 = .ok (.iconst 0, 1) := by decide +kernel
theorem dL_isLit_2 : decode cL_isLit 2 = .ok (.aload_n 0, 1) := by decide +kernel
theorem dL_isLit_3 : decode cL_isLit 3 = .ok (.iload_n 1, 1) := by decide +kernel
theorem dL_isLit_4 : decode cL_isLit 4 = .ok (.invokevirtual 34, 3) := by decide +kernel
theorem dL_isLit_7 : decode cL_isLit 7 = .ok (.ifCond .eq 7, 3) := by decide +kernel
theorem dL_isLit_10 : decode cL_isLit 10 = .ok (.lconst 1, 1) := by decide +kernel
theorem dL_isLit_11 : decode cL_isLit 11 = .ok (.goto 4, 3) := by decide +kernel
theorem dL_isLit_14 : decode cL_isLit 14 = .ok (.lconst 0, 1) := by decide +kernel
theorem dL_isLit_15 : decode cL_isLit 15 = .ok (.lastore, 1) := by decide +kernel
theorem dL_isLit_16 : decode cL_isLit 16 = .ok (.goto 6, 3) := by decide +kernel
theorem dL_isLit_19 : decode cL_isLit 19 = .ok (.astore_n 3, 1) := by decide +kernel
theorem dL_isLit_20 : decode cL_isLit 20 = .ok (.iconst 1, 1) := by decide +kernel
theorem dL_isLit_21 : decode cL_isLit 21 = .ok (.ireturn, 1) := by decide +kernel
theorem dL_isLit_22 : decode cL_isLit 22 = .ok (.iconst 0, 1) := by decide +kernel
theorem dL_isLit_23 : decode cL_isLit 23 = .ok (.ireturn, 1) := by decide +kernel
set_option maxRecDepth 20000 in
theorem ggL_stay_X4_stay : GoodIn wsL_stay wsX4_stay := goodIn_ca (goodIn_ca (goodIn_ca (goodIn_r _ [8, 9, 10, 11, 12, 13, 14, 7, 15, 16, 17, 18, 19, 20, 21, 22, 23, 24, 25, 26, 27, 28, 29, 30, 31, 32, 33, 34, 35, 36, 37, 38, 39, 40, 41, 42, 43, 44, 45, 46, 47, 48, 49, 50, 51, 52, 53, 54, 55, 56, 57, 58, 59, 60] (by decide +kernel) (by decide +kernel)) (goodIn_sub (fun _ h => List.mem_cons_of_mem _ (List.mem_append_left _ (List.mem_append_left _ (List.mem_append_right _ h)))) (by decide +kernel))) (goodIn_sub (fun _ h => List.mem_cons_of_mem _ (List.mem_append_left _ (List.mem_append_right _ h))) (by decide +kernel))) (goodIn_sub (fun _ h => List.mem_cons_of_mem _ (List.mem_append_right _ h)) (by decide +kernel))
set_option maxRecDepth 20000 in
theorem gL_stay_X4_stay : GoodIn wsL_stay (wsV RL 37 RX4 yX4_stay wsX4_stay) := goodIn_app (goodIn_of _ (by decide +kernel)) ggL_stay_X4_stay
theorem dL_stay_0 : decode cL_stay 0 = .ok (.aload 4, 2) := by decide +kernel
theorem dL_stay_2 : decode cL_stay 2 = .ok (.iconst 0, 1) := by decide +kernel
theorem dL_stay_3 : decode cL_stay 3 = .ok (.aload_n 0, 1) := by decide +kernel
theorem dL_stay_4 : decode cL_stay 4 = .ok (.iload_n 1, 1) := by decide +kernel
theorem dL_stay_5 : decode cL_stay 5 = .ok (.iload_n 2, 1) := by decide +kernel
theorem dL_stay_6 : decode cL_stay 6 = .ok (.iload_n 3, 1) := by decide +kernel
theorem dL_stay_7 : decode cL_stay 7 = .ok (.invokevirtual 37, 3) := by decide +kernel
theorem dL_stay_10 : decode cL_stay 10 = .ok (.i2l, 1) := by decide +kernel
theorem dL_stay_11 : decode cL_stay 11 = .ok (.lastore, 1) := by decide +kernel
theorem dL_stay_12 : decode cL_stay 12 = .ok (.goto 15, 3) := by decide +kernel
theorem dL_stay_15 : decode cL_stay 15 = .ok (.astore 5, 2) := by decide +kernel
theorem dL_stay_17 : decode cL_stay 17 = .ok (.iconst 1, 1) := by decide +kernel
theorem dL_stay_18 : decode cL_stay 18 = .ok (.ireturn, 1) := by decide +kernel
theorem dL_stay_19 : decode cL_stay 19 = .ok (.astore 5, 2) := by decide +kernel
theorem dL_stay_21 : decode cL_stay 21 = .ok (.iconst 2, 1) := by decide +kernel
theorem dL_stay_22 : decode cL_stay 22 = .ok (.ireturn, 1) := by decide +kernel
theorem dL_stay_23 : decode cL_stay 23 = .ok (.astore 5, 2) := by decide +kernel
theorem dL_stay_25 : decode cL_stay 25 = .ok (.iconst 3, 1) := by decide +kernel
theorem dL_stay_26 : decode cL_stay 26 = .ok (.ireturn, 1) := by decide +kernel
theorem dL_stay_27 : decode cL_stay 27 = .ok (.iconst 0, 1) := by decide +kernel
theorem dL_stay_28 : decode cL_stay 28 = .ok (.ireturn, 1) := by decide +kernel
set_option maxRecDepth 20000 in
theorem ggL_move_X4_move : GoodIn wsL_move wsX4_move := goodIn_ca (goodIn_ca (goodIn_r _ [7, 8, 9, 10, 11, 6, 12, 13, 14, 15, 16, 17, 18, 19, 20, 21, 22, 23, 24, 25, 26, 27, 28, 29, 30, 31, 32, 33, 34, 35, 36, 37, 38, 39, 40, 41, 42, 43, 44, 45, 46, 47, 48, 49, 50, 51, 52, 53, 54, 55, 56, 57, 58, 59, 60, 61, 62, 63, 64, 65, 66, 67, 68, 69] (by decide +kernel) (by decide +kernel)) (goodIn_sub (fun _ h => List.mem_cons_of_mem _ (List.mem_append_left _ (List.mem_append_right _ h))) (by decide +kernel))) (goodIn_sub (fun _ h => List.mem_cons_of_mem _ (List.mem_append_right _ h)) (by decide +kernel))
set_option maxRecDepth 20000 in
theorem gL_move_X4_move : GoodIn wsL_move (wsV RL 41 RX4 yX4_move wsX4_move) := goodIn_app (goodIn_of _ (by decide +kernel)) ggL_move_X4_move
theorem dL_move_0 : decode cL_move 0 = .ok (.aload_n 3, 1) := by decide +kernel
theorem dL_move_1 : decode cL_move 1 = .ok (.iconst 0, 1) := by decide +kernel
theorem dL_move_2 : decode cL_move 2 = .ok (.aload_n 0, 1) := by decide +kernel
theorem dL_move_3 : decode cL_move 3 = .ok (.iload_n 1, 1) := by decide +kernel
theorem dL_move_4 : decode cL_move 4 = .ok (.iload_n 2, 1) := by decide +kernel
theorem dL_move_5 : decode cL_move 5 = .ok (.invokevirtual 41, 3) := by decide +kernel
theorem dL_move_8 : decode cL_move 8 = .ok (.i2l, 1) := by decide +kernel
theorem dL_move_9 : decode cL_move 9 = .ok (.lastore, 1) := by decide +kernel
theorem dL_move_10 : decode cL_move 10 = .ok (.goto 11, 3) := by decide +kernel
theorem dL_move_13 : decode cL_move 13 = .ok (.astore 4, 2) := by decide +kernel
theorem dL_move_15 : decode cL_move 15 = .ok (.iconst 1, 1) := by decide +kernel
theorem dL_move_16 : decode cL_move 16 = .ok (.ireturn, 1) := by decide +kernel
theorem dL_move_17 : decode cL_move 17 = .ok (.astore 4, 2) := by decide +kernel
theorem dL_move_19 : decode cL_move 19 = .ok (.iconst 2, 1) := by decide +kernel
theorem dL_move_20 : decode cL_move 20 = .ok (.ireturn, 1) := by decide +kernel
theorem dL_move_21 : decode cL_move 21 = .ok (.iconst 0, 1) := by decide +kernel
theorem dL_move_22 : decode cL_move 22 = .ok (.ireturn, 1) := by decide +kernel
set_option maxRecDepth 20000 in
theorem ggL_leave_X4_leave : GoodIn wsL_leave wsX4_leave := goodIn_ca (goodIn_ca (goodIn_r _ [7, 8, 9, 10, 11, 6, 12, 13, 14, 15, 16, 17, 18, 19, 20, 21, 22, 23, 24, 25, 26, 27, 28, 29, 30, 31, 32, 33, 34, 35, 36, 37, 38, 39, 40, 41, 42, 43, 44, 45, 46, 47, 48, 49, 50, 51, 52, 53, 54, 55, 56, 57] (by decide +kernel) (by decide +kernel)) (goodIn_sub (fun _ h => List.mem_cons_of_mem _ (List.mem_append_left _ (List.mem_append_right _ h))) (by decide +kernel))) (goodIn_sub (fun _ h => List.mem_cons_of_mem _ (List.mem_append_right _ h)) (by decide +kernel))
set_option maxRecDepth 20000 in
theorem gL_leave_X4_leave : GoodIn wsL_leave (wsV RL 44 RX4 yX4_leave wsX4_leave) := goodIn_app (goodIn_of _ (by decide +kernel)) ggL_leave_X4_leave
theorem dL_leave_0 : decode cL_leave 0 = .ok (.aload_n 2, 1) := by decide +kernel
theorem dL_leave_1 : decode cL_leave 1 = .ok (.iconst 0, 1) := by decide +kernel
theorem dL_leave_2 : decode cL_leave 2 = .ok (.aload_n 0, 1) := by decide +kernel
theorem dL_leave_3 : decode cL_leave 3 = .ok (.iload_n 1, 1) := by decide +kernel
theorem dL_leave_4 : decode cL_leave 4 = .ok (.invokevirtual 44, 3) := by decide +kernel
theorem dL_leave_7 : decode cL_leave 7 = .ok (.i2l, 1) := by decide +kernel
theorem dL_leave_8 : decode cL_leave 8 = .ok (.lastore, 1) := by decide +kernel
theorem dL_leave_9 : decode cL_leave 9 = .ok (.goto 9, 3) := by decide +kernel
theorem dL_leave_12 : decode cL_leave 12 = .ok (.astore_n 3, 1) := by decide +kernel
theorem dL_leave_13 : decode cL_leave 13 = .ok (.iconst 1, 1) := by decide +kernel
theorem dL_leave_14 : decode cL_leave 14 = .ok (.ireturn, 1) := by decide +kernel
theorem dL_leave_15 : decode cL_leave 15 = .ok (.astore_n 3, 1) := by decide +kernel
theorem dL_leave_16 : decode cL_leave 16 = .ok (.iconst 2, 1) := by decide +kernel
theorem dL_leave_17 : decode cL_leave 17 = .ok (.ireturn, 1) := by decide +kernel
theorem dL_leave_18 : decode cL_leave 18 = .ok (.iconst 0, 1) := by decide +kernel
theorem dL_leave_19 : decode cL_leave 19 = .ok (.ireturn, 1) := by decide +kernel
set_option maxRecDepth 20000 in
theorem ggL_hush_X4_hush : GoodIn wsL_hush wsX4_hush := goodIn_ca (goodIn_ca (goodIn_r _ [7, 8, 9, 10, 11, 6, 12, 13, 14, 15, 16, 17, 18, 19, 20, 21, 22, 23, 24, 25, 26, 27, 28, 29, 30, 31, 32, 33, 34, 35, 36, 37, 38, 39, 40, 41, 42, 43, 44, 45, 46, 47, 48, 49, 50] (by decide +kernel) (by decide +kernel)) (goodIn_sub (fun _ h => List.mem_cons_of_mem _ (List.mem_append_left _ (List.mem_append_right _ h))) (by decide +kernel))) (goodIn_sub (fun _ h => List.mem_cons_of_mem _ (List.mem_append_right _ h)) (by decide +kernel))
set_option maxRecDepth 20000 in
theorem gL_hush_X4_hush : GoodIn wsL_hush (wsV RL 47 RX4 yX4_hush wsX4_hush) := goodIn_app (goodIn_of _ (by decide +kernel)) ggL_hush_X4_hush
theorem dL_hush_0 : decode cL_hush 0 = .ok (.aload_n 3, 1) := by decide +kernel
theorem dL_hush_1 : decode cL_hush 1 = .ok (.iconst 0, 1) := by decide +kernel
theorem dL_hush_2 : decode cL_hush 2 = .ok (.aload_n 0, 1) := by decide +kernel
theorem dL_hush_3 : decode cL_hush 3 = .ok (.iload_n 1, 1) := by decide +kernel
theorem dL_hush_4 : decode cL_hush 4 = .ok (.iload_n 2, 1) := by decide +kernel
theorem dL_hush_5 : decode cL_hush 5 = .ok (.invokevirtual 47, 3) := by decide +kernel
theorem dL_hush_8 : decode cL_hush 8 = .ok (.i2l, 1) := by decide +kernel
theorem dL_hush_9 : decode cL_hush 9 = .ok (.lastore, 1) := by decide +kernel
theorem dL_hush_10 : decode cL_hush 10 = .ok (.goto 11, 3) := by decide +kernel
theorem dL_hush_13 : decode cL_hush 13 = .ok (.astore 4, 2) := by decide +kernel
theorem dL_hush_15 : decode cL_hush 15 = .ok (.iconst 1, 1) := by decide +kernel
theorem dL_hush_16 : decode cL_hush 16 = .ok (.ireturn, 1) := by decide +kernel
theorem dL_hush_17 : decode cL_hush 17 = .ok (.astore 4, 2) := by decide +kernel
theorem dL_hush_19 : decode cL_hush 19 = .ok (.iconst 2, 1) := by decide +kernel
theorem dL_hush_20 : decode cL_hush 20 = .ok (.ireturn, 1) := by decide +kernel
theorem dL_hush_21 : decode cL_hush 21 = .ok (.iconst 0, 1) := by decide +kernel
theorem dL_hush_22 : decode cL_hush 22 = .ok (.ireturn, 1) := by decide +kernel
set_option maxRecDepth 20000 in
theorem ggL_guest_X4_guest : GoodIn wsL_guest wsX4_guest := goodIn_ca (goodIn_r _ [6, 7, 8, 9, 10, 5, 11, 12, 13, 14, 15, 16, 17, 18, 19, 20, 21, 22, 23, 24, 25, 26, 27, 28, 29, 30, 31, 32, 33, 34, 35, 36, 37, 38, 39, 40, 41, 42, 43, 44, 45, 46, 47, 48, 49, 50, 51, 52, 53, 54, 55, 56, 57, 58, 59, 60, 61, 62, 63, 64, 65, 66, 67, 68, 69, 70, 71, 72] (by decide +kernel) (by decide +kernel)) (goodIn_sub (fun _ h => List.mem_cons_of_mem _ (List.mem_append_right _ h)) (by decide +kernel))
set_option maxRecDepth 20000 in
theorem gL_guest_X4_guest : GoodIn wsL_guest (wsV RL 50 RX4 yX4_guest wsX4_guest) := goodIn_app (goodIn_of _ (by decide +kernel)) ggL_guest_X4_guest
theorem dL_guest_0 : decode cL_guest 0 = .ok (.aload_n 3, 1) := by decide +kernel
theorem dL_guest_1 : decode cL_guest 1 = .ok (.iconst 0, 1) := by decide +kernel
theorem dL_guest_2 : decode cL_guest 2 = .ok (.aload_n 0, 1) := by decide +kernel
theorem dL_guest_3 : decode cL_guest 3 = .ok (.iload_n 1, 1) := by decide +kernel
theorem dL_guest_4 : decode cL_guest 4 = .ok (.iload_n 2, 1) := by decide +kernel
theorem dL_guest_5 : decode cL_guest 5 = .ok (.invokevirtual 50, 3) := by decide +kernel
theorem dL_guest_8 : decode cL_guest 8 = .ok (.i2l, 1) := by decide +kernel
theorem dL_guest_9 : decode cL_guest 9 = .ok (.lastore, 1) := by decide +kernel
theorem dL_guest_10 : decode cL_guest 10 = .ok (.goto 7, 3) := by decide +kernel
theorem dL_guest_13 : decode cL_guest 13 = .ok (.astore 4, 2) := by decide +kernel
theorem dL_guest_15 : decode cL_guest 15 = .ok (.iconst 1, 1) := by decide +kernel
theorem dL_guest_16 : decode cL_guest 16 = .ok (.ireturn, 1) := by decide +kernel
theorem dL_guest_17 : decode cL_guest 17 = .ok (.iconst 0, 1) := by decide +kernel
theorem dL_guest_18 : decode cL_guest 18 = .ok (.ireturn, 1) := by decide +kernel
set_option maxRecDepth 20000 in
theorem ggL_count_X4_count : GoodIn wsL_count wsX4_count := goodIn_ca (goodIn_r _ [6, 7, 8, 9, 5, 10, 11, 12, 13, 14, 15, 16, 17, 18, 19, 20, 21, 22, 23, 24, 25, 26, 27, 28, 29, 30, 31, 32, 33, 34, 35, 36, 37, 38, 39, 40, 41, 42, 43, 44, 45, 46, 47, 48, 49, 50, 51, 52, 53, 54, 55, 56, 57, 58, 59, 60, 61, 62, 63, 64, 65, 66, 67, 68, 69, 70, 71, 72, 73, 74, 75, 76, 77, 78, 79, 80, 81, 82, 83, 84, 85, 86, 87, 88, 89] (by decide +kernel) (by decide +kernel)) (goodIn_sub (fun _ h => List.mem_cons_of_mem _ (List.mem_append_right _ h)) (by decide +kernel))
set_option maxRecDepth 20000 in
theorem gL_count_X4_count : GoodIn wsL_count (wsV RL 53 RX4 yX4_count wsX4_count) := goodIn_app (goodIn_of _ (by decide +kernel)) ggL_count_X4_count
theorem dL_count_0 : decode cL_count 0 = .ok (.aload_n 2, 1) := by decide +kernel
theorem dL_count_1 : decode cL_count 1 = .ok (.iconst 0, 1) := by decide +kernel
theorem dL_count_2 : decode cL_count 2 = .ok (.aload_n 0, 1) := by decide +kernel
theorem dL_count_3 : decode cL_count 3 = .ok (.iload_n 1, 1) := by decide +kernel
theorem dL_count_4 : decode cL_count 4 = .ok (.invokevirtual 53, 3) := by decide +kernel
theorem dL_count_7 : decode cL_count 7 = .ok (.i2l, 1) := by decide +kernel
theorem dL_count_8 : decode cL_count 8 = .ok (.lastore, 1) := by decide +kernel
theorem dL_count_9 : decode cL_count 9 = .ok (.goto 6, 3) := by decide +kernel
theorem dL_count_12 : decode cL_count 12 = .ok (.astore_n 3, 1) := by decide +kernel
theorem dL_count_13 : decode cL_count 13 = .ok (.iconst 1, 1) := by decide +kernel
theorem dL_count_14 : decode cL_count 14 = .ok (.ireturn, 1) := by decide +kernel
theorem dL_count_15 : decode cL_count 15 = .ok (.iconst 0, 1) := by decide +kernel
theorem dL_count_16 : decode cL_count 16 = .ok (.ireturn, 1) := by decide +kernel
set_option maxRecDepth 20000 in
theorem ggL_pass_X4_pass : GoodIn wsL_pass wsX4_pass := goodIn_ca (goodIn_r _ [6, 7, 8, 9, 5, 10, 11, 12, 13, 14, 15, 16, 17, 18, 19, 20, 21, 22, 23, 24, 25, 26, 27, 28, 29, 30, 31, 32, 33, 34, 35, 36, 37, 38, 39, 40, 41, 42, 43, 44, 45, 46, 47, 48, 49, 50, 51, 52, 53, 54, 55, 56, 57, 58, 59, 60, 61, 62, 63, 64, 65, 66, 67, 68, 69, 70, 71, 72, 73, 74, 75, 76, 77, 78, 79, 80, 81, 82, 83, 84, 85, 86, 87, 88, 89, 90, 91, 92, 93, 94, 95, 96, 97, 98, 99, 100, 101, 102, 103, 104, 105, 106, 107, 108, 109, 110, 111, 112, 113, 114, 115, 116, 117, 118, 119, 120, 121, 122, 123, 124, 125, 126, 127, 128, 129, 130, 131, 132, 133, 134, 135, 136, 137, 138, 139, 140, 141, 142, 143, 144, 145, 146, 147, 148, 149, 150, 151, 152, 153, 154, 155, 156, 157, 158, 159, 160, 161, 162, 163, 164, 165, 166, 167, 168, 169, 170, 171, 172, 173, 174, 175, 176, 177, 178, 179, 180, 181, 182, 183, 184, 185, 186, 187, 188, 189] (by decide +kernel) (by decide +kernel)) (goodIn_sub (fun _ h => List.mem_cons_of_mem _ (List.mem_append_right _ h)) (by decide +kernel))
set_option maxRecDepth 20000 in
theorem gL_pass_X4_pass : GoodIn wsL_pass (wsV RL 56 RX4 yX4_pass wsX4_pass) := goodIn_app (goodIn_of _ (by decide +kernel)) ggL_pass_X4_pass
theorem dL_pass_0 : decode cL_pass 0 = .ok (.aload_n 2, 1) := by decide +kernel
theorem dL_pass_1 : decode cL_pass 1 = .ok (.iconst 0, 1) := by decide +kernel
theorem dL_pass_2 : decode cL_pass 2 = .ok (.aload_n 0, 1) := by decide +kernel
theorem dL_pass_3 : decode cL_pass 3 = .ok (.iload_n 1, 1) := by decide +kernel
theorem dL_pass_4 : decode cL_pass 4 = .ok (.invokevirtual 56, 3) := by decide +kernel
theorem dL_pass_7 : decode cL_pass 7 = .ok (.i2l, 1) := by decide +kernel
theorem dL_pass_8 : decode cL_pass 8 = .ok (.lastore, 1) := by decide +kernel
theorem dL_pass_9 : decode cL_pass 9 = .ok (.goto 6, 3) := by decide +kernel
theorem dL_pass_12 : decode cL_pass 12 = .ok (.astore_n 3, 1) := by decide +kernel
theorem dL_pass_13 : decode cL_pass 13 = .ok (.iconst 1, 1) := by decide +kernel
theorem dL_pass_14 : decode cL_pass 14 = .ok (.ireturn, 1) := by decide +kernel
theorem dL_pass_15 : decode cL_pass 15 = .ok (.iconst 0, 1) := by decide +kernel
theorem dL_pass_16 : decode cL_pass 16 = .ok (.ireturn, 1) := by decide +kernel
set_option maxRecDepth 20000 in
theorem ggL_dark_X4_dark : GoodIn wsL_dark wsX4_dark := goodIn_ca (goodIn_r _ [6, 7, 8, 9, 5, 10, 11, 12, 13, 14, 15, 16, 17, 18, 19, 20, 21, 22, 23, 24] (by decide +kernel) (by decide +kernel)) (goodIn_sub (fun _ h => List.mem_cons_of_mem _ (List.mem_append_right _ h)) (by decide +kernel))
set_option maxRecDepth 20000 in
theorem gL_dark_X4_dark : GoodIn wsL_dark (wsV RL 59 RX4 yX4_dark wsX4_dark) := goodIn_app (goodIn_of _ (by decide +kernel)) ggL_dark_X4_dark
theorem dL_dark_0 : decode cL_dark 0 = .ok (.aload_n 2, 1) := by decide +kernel
theorem dL_dark_1 : decode cL_dark 1 = .ok (.iconst 0, 1) := by decide +kernel
theorem dL_dark_2 : decode cL_dark 2 = .ok (.aload_n 0, 1) := by decide +kernel
theorem dL_dark_3 : decode cL_dark 3 = .ok (.iload_n 1, 1) := by decide +kernel
theorem dL_dark_4 : decode cL_dark 4 = .ok (.invokevirtual 59, 3) := by decide +kernel
theorem dL_dark_7 : decode cL_dark 7 = .ok (.i2l, 1) := by decide +kernel
theorem dL_dark_8 : decode cL_dark 8 = .ok (.lastore, 1) := by decide +kernel
theorem dL_dark_9 : decode cL_dark 9 = .ok (.goto 6, 3) := by decide +kernel
theorem dL_dark_12 : decode cL_dark 12 = .ok (.astore_n 3, 1) := by decide +kernel
theorem dL_dark_13 : decode cL_dark 13 = .ok (.iconst 1, 1) := by decide +kernel
theorem dL_dark_14 : decode cL_dark 14 = .ok (.ireturn, 1) := by decide +kernel
theorem dL_dark_15 : decode cL_dark 15 = .ok (.iconst 0, 1) := by decide +kernel
theorem dL_dark_16 : decode cL_dark 16 = .ok (.ireturn, 1) := by decide +kernel
set_option maxRecDepth 20000 in
theorem ggL_foresee_X4_foresee : GoodIn wsL_foresee wsX4_foresee := goodIn_ca (goodIn_ca (goodIn_r _ [7, 8, 9, 10, 11, 6, 12, 13, 14, 15, 16, 17, 18, 19, 20, 21, 22, 23, 24, 25, 26, 27, 28, 29, 30, 31, 32, 33, 34, 35, 36, 37, 38, 39, 40, 41, 42, 43, 44, 45, 46, 47, 48, 49, 50, 51, 52, 53, 54, 55, 56, 57, 58, 59, 60, 61, 62, 63, 64, 65, 66, 67, 68, 69, 70, 71, 72, 73, 74, 75, 76, 77, 78, 79, 80, 81, 82, 83, 84, 85, 86, 87, 88, 89, 90, 91, 92, 93, 94, 95, 96, 97, 98, 99, 100, 101, 102, 103, 104, 105, 106, 107, 108, 109, 110, 111, 112, 113, 114, 115, 116, 117, 118, 119, 120, 121, 122, 123, 124, 125, 126, 127, 128, 129, 130, 131, 132, 133, 134, 135, 136, 137, 138, 139, 140, 141, 142, 143, 144, 145, 146, 147, 148, 149, 150, 151, 152, 153, 154, 155, 156, 157, 158, 159, 160, 161, 162, 163, 164, 165, 166, 167, 168, 169, 170, 171, 172, 173, 174, 175, 176, 177, 178, 179, 180, 181, 182, 183, 184, 185, 186, 187, 188, 189, 190, 191, 192, 193, 194, 195, 196, 197, 198, 199, 200, 201, 202, 203, 204, 205, 206, 207, 208, 209, 210, 211, 212, 213, 214, 215, 216, 217, 218, 219, 220, 221, 222, 223, 224, 225, 226] (by decide +kernel) (by decide +kernel)) (goodIn_sub (fun _ h => List.mem_cons_of_mem _ (List.mem_append_left _ (List.mem_append_right _ h))) (by decide +kernel))) (goodIn_sub (fun _ h => List.mem_cons_of_mem _ (List.mem_append_right _ h)) (by decide +kernel))
set_option maxRecDepth 20000 in
theorem gL_foresee_X4_foresee : GoodIn wsL_foresee (wsV RL 62 RX4 yX4_foresee wsX4_foresee) := goodIn_app (goodIn_of _ (by decide +kernel)) ggL_foresee_X4_foresee
theorem dL_foresee_0 : decode cL_foresee 0 = .ok (.aload_n 3, 1) := by decide +kernel
theorem dL_foresee_1 : decode cL_foresee 1 = .ok (.iconst 0, 1) := by decide +kernel
theorem dL_foresee_2 : decode cL_foresee 2 = .ok (.aload_n 0, 1) := by decide +kernel
theorem dL_foresee_3 : decode cL_foresee 3 = .ok (.iload_n 1, 1) := by decide +kernel
theorem dL_foresee_4 : decode cL_foresee 4 = .ok (.iload_n 2, 1) := by decide +kernel
theorem dL_foresee_5 : decode cL_foresee 5 = .ok (.invokevirtual 62, 3) := by decide +kernel
theorem dL_foresee_8 : decode cL_foresee 8 = .ok (.i2l, 1) := by decide +kernel
theorem dL_foresee_9 : decode cL_foresee 9 = .ok (.lastore, 1) := by decide +kernel
theorem dL_foresee_10 : decode cL_foresee 10 = .ok (.goto 11, 3) := by decide +kernel
theorem dL_foresee_13 : decode cL_foresee 13 = .ok (.astore 4, 2) := by decide +kernel
theorem dL_foresee_15 : decode cL_foresee 15 = .ok (.iconst 1, 1) := by decide +kernel
theorem dL_foresee_16 : decode cL_foresee 16 = .ok (.ireturn, 1) := by decide +kernel
theorem dL_foresee_17 : decode cL_foresee 17 = .ok (.astore 4, 2) := by decide +kernel
theorem dL_foresee_19 : decode cL_foresee 19 = .ok (.iconst 2, 1) := by decide +kernel
theorem dL_foresee_20 : decode cL_foresee 20 = .ok (.ireturn, 1) := by decide +kernel
theorem dL_foresee_21 : decode cL_foresee 21 = .ok (.iconst 0, 1) := by decide +kernel
theorem dL_foresee_22 : decode cL_foresee 22 = .ok (.ireturn, 1) := by decide +kernel
set_option maxRecDepth 20000 in
theorem ggL_advise_X4_advise : GoodIn wsL_advise wsX4_advise := goodIn_ca (goodIn_r _ [6, 7, 8, 9, 10, 5, 11, 12, 13, 14, 15, 16, 17, 18, 19, 20, 21, 22, 23, 24, 25, 26, 27, 28, 29, 30, 31, 32, 33, 34, 35, 36, 37, 38, 39, 40, 41, 42, 43, 44, 45, 46, 47, 48, 49, 50, 51, 52, 53, 54, 55, 56, 57, 58, 59, 60, 61, 62, 63, 64, 65, 66, 67, 68, 69, 70, 71, 72, 73, 74, 75, 76, 77, 78, 79, 80, 81, 82, 83, 84, 85, 86, 87, 88, 89, 90, 91, 92, 93, 94, 95, 96, 97, 98, 99, 100, 101, 102, 103, 104, 105, 106, 107, 108, 109, 110, 111, 112, 113, 114, 115, 116, 117, 118, 119, 120, 121, 122, 123, 124, 125, 126, 127, 128, 129, 130, 131, 132, 133, 134, 135, 136, 137, 138, 139, 140, 141, 142, 143, 144, 145, 146, 147, 148, 149, 150, 151, 152, 153, 154, 155, 156, 157, 158, 159, 160, 161, 162, 163, 164, 165, 166, 167, 168, 169, 170, 171, 172, 173, 174, 175, 176, 177, 178, 179, 180, 181, 182, 183, 184, 185, 186, 187, 188, 189, 190, 191, 192, 193, 194, 195, 196, 197, 198, 199, 200, 201, 202, 203, 204, 205, 206, 207, 208, 209, 210, 211, 212, 213, 214, 215, 216, 217, 218, 219] (by decide +kernel) (by decide +kernel)) (goodIn_sub (fun _ h => List.mem_cons_of_mem _ (List.mem_append_right _ h)) (by decide +kernel))
set_option maxRecDepth 20000 in
theorem gL_advise_X4_advise : GoodIn wsL_advise (wsV RL 65 RX4 yX4_advise wsX4_advise) := goodIn_app (goodIn_of _ (by decide +kernel)) ggL_advise_X4_advise
theorem dL_advise_0 : decode cL_advise 0 = .ok (.aload_n 2, 1) := by decide +kernel
theorem dL_advise_1 : decode cL_advise 1 = .ok (.iconst 0, 1) := by decide +kernel
theorem dL_advise_2 : decode cL_advise 2 = .ok (.aload_n 0, 1) := by decide +kernel
theorem dL_advise_3 : decode cL_advise 3 = .ok (.iload_n 1, 1) := by decide +kernel
theorem dL_advise_4 : decode cL_advise 4 = .ok (.invokevirtual 65, 3) := by decide +kernel
theorem dL_advise_7 : decode cL_advise 7 = .ok (.i2l, 1) := by decide +kernel
