theorem dX3_build_143 : decode cX3_build 143 = .ok (.iload 6, 2) := by decide +kernel
theorem dX3_build_145 : decode cX3_build 145 = .ok (.iaload, 1) := by decide +kernel
theorem dX3_build_146 : decode cX3_build 146 = .ok (.invokevirtual 50, 3) := by decide +kernel
theorem dX3_build_149 : decode cX3_build 149 = .ok (.ifCond .eq 7, 3) := by decide +kernel
theorem dX3_build_152 : decode cX3_build 152 = .ok (.iconst 1, 1) := by decide +kernel
theorem dX3_build_153 : decode cX3_build 153 = .ok (.goto 4, 3) := by decide +kernel
theorem dX3_build_156 : decode cX3_build 156 = .ok (.iconst 0, 1) := by decide +kernel
theorem dX3_build_157 : decode cX3_build 157 = .ok (.istore 8, 2) := by decide +kernel
theorem dX3_build_159 : decode cX3_build 159 = .ok (.aload_n 0, 1) := by decide +kernel
theorem dX3_build_160 : decode cX3_build 160 = .ok (.getfield 16, 3) := by decide +kernel
theorem dX3_build_163 : decode cX3_build 163 = .ok (.iload 7, 2) := by decide +kernel
theorem dX3_build_165 : decode cX3_build 165 = .ok (.iload 8, 2) := by decide +kernel
theorem dX3_build_167 : decode cX3_build 167 = .ok (.ifCond .eq 13, 3) := by decide +kernel
theorem dX3_build_170 : decode cX3_build 170 = .ok (.aload_n 0, 1) := by decide +kernel
theorem dX3_build_171 : decode cX3_build 171 = .ok (.getfield 13, 3) := by decide +kernel
theorem dX3_build_174 : decode cX3_build 174 = .ok (.iload 5, 2) := by decide +kernel
theorem dX3_build_176 : decode cX3_build 176 = .ok (.iaload, 1) := by decide +kernel
theorem dX3_build_177 : decode cX3_build 177 = .ok (.goto 10, 3) := by decide +kernel
theorem dX3_build_180 : decode cX3_build 180 = .ok (.aload_n 0, 1) := by decide +kernel
theorem dX3_build_181 : decode cX3_build 181 = .ok (.getfield 13, 3) := by decide +kernel
theorem dX3_build_184 : decode cX3_build 184 = .ok (.iload 6, 2) := by decide +kernel
theorem dX3_build_186 : decode cX3_build 186 = .ok (.iaload, 1) := by decide +kernel
theorem dX3_build_187 : decode cX3_build 187 = .ok (.iastore, 1) := by decide +kernel
theorem dX3_build_188 : decode cX3_build 188 = .ok (.iload 8, 2) := by decide +kernel
theorem dX3_build_190 : decode cX3_build 190 = .ok (.ifCond .eq 10, 3) := by decide +kernel
theorem dX3_build_193 : decode cX3_build 193 = .ok (.iload 5, 2) := by decide +kernel
theorem dX3_build_195 : decode cX3_build 195 = .ok (.iconst 1, 1) := by decide +kernel
theorem dX3_build_196 : decode cX3_build 196 = .ok (.iadd, 1) := by decide +kernel
theorem dX3_build_197 : decode cX3_build 197 = .ok (.goto 5, 3) := by decide +kernel
theorem dX3_build_200 : decode cX3_build 200 = .ok (.iload 5, 2) := by decide +kernel
theorem dX3_build_202 : decode cX3_build 202 = .ok (.istore 5, 2) := by decide +kernel
theorem dX3_build_204 : decode cX3_build 204 = .ok (.iload 8, 2) := by decide +kernel
theorem dX3_build_206 : decode cX3_build 206 = .ok (.ifCond .eq 8, 3) := by decide +kernel
theorem dX3_build_209 : decode cX3_build 209 = .ok (.iload 6, 2) := by decide +kernel
theorem dX3_build_211 : decode cX3_build 211 = .ok (.goto 7, 3) := by decide +kernel
theorem dX3_build_214 : decode cX3_build 214 = .ok (.iload 6, 2) := by decide +kernel
theorem dX3_build_216 : decode cX3_build 216 = .ok (.iconst 1, 1) := by decide +kernel
theorem dX3_build_217 : decode cX3_build 217 = .ok (.iadd, 1) := by decide +kernel
theorem dX3_build_218 : decode cX3_build 218 = .ok (.istore 6, 2) := by decide +kernel
theorem dX3_build_220 : decode cX3_build 220 = .ok (.iinc 7 1, 3) := by decide +kernel
theorem dX3_build_223 : decode cX3_build 223 = .ok (.goto (-112), 3) := by decide +kernel
theorem dX3_build_226 : decode cX3_build 226 = .ok (.iload_n 2, 1) := by decide +kernel
theorem dX3_build_227 : decode cX3_build 227 = .ok (.iconst 2, 1) := by decide +kernel
theorem dX3_build_228 : decode cX3_build 228 = .ok (.iload_n 1, 1) := by decide +kernel
theorem dX3_build_229 : decode cX3_build 229 = .ok (.imul, 1) := by decide +kernel
theorem dX3_build_230 : decode cX3_build 230 = .ok (.iadd, 1) := by decide +kernel
theorem dX3_build_231 : decode cX3_build 231 = .ok (.istore_n 2, 1) := by decide +kernel
theorem dX3_build_232 : decode cX3_build 232 = .ok (.goto (-185), 3) := by decide +kernel
theorem dX3_build_235 : decode cX3_build 235 = .ok (.iconst 0, 1) := by decide +kernel
theorem dX3_build_236 : decode cX3_build 236 = .ok (.istore_n 2, 1) := by decide +kernel
theorem dX3_build_237 : decode cX3_build 237 = .ok (.iload_n 2, 1) := by decide +kernel
theorem dX3_build_238 : decode cX3_build 238 = .ok (.aload_n 0, 1) := by decide +kernel
theorem dX3_build_239 : decode cX3_build 239 = .ok (.getfield 32, 3) := by decide +kernel
theorem dX3_build_242 : decode cX3_build 242 = .ok (.if_icmp .ge 21, 3) := by decide +kernel
theorem dX3_build_245 : decode cX3_build 245 = .ok (.aload_n 0, 1) := by decide +kernel
theorem dX3_build_246 : decode cX3_build 246 = .ok (.getfield 13, 3) := by decide +kernel
theorem dX3_build_249 : decode cX3_build 249 = .ok (.iload_n 2, 1) := by decide +kernel
theorem dX3_build_250 : decode cX3_build 250 = .ok (.aload_n 0, 1) := by decide +kernel
theorem dX3_build_251 : decode cX3_build 251 = .ok (.getfield 16, 3) := by decide +kernel
theorem dX3_build_254 : decode cX3_build 254 = .ok (.iload_n 2, 1) := by decide +kernel
theorem dX3_build_255 : decode cX3_build 255 = .ok (.iaload, 1) := by decide +kernel
theorem dX3_build_256 : decode cX3_build 256 = .ok (.iastore, 1) := by decide +kernel
theorem dX3_build_257 : decode cX3_build 257 = .ok (.iinc 2 1, 3) := by decide +kernel
theorem dX3_build_260 : decode cX3_build 260 = .ok (.goto (-23), 3) := by decide +kernel
theorem dX3_build_263 : decode cX3_build 263 = .ok (.iconst 2, 1) := by decide +kernel
theorem dX3_build_264 : decode cX3_build 264 = .ok (.iload_n 1, 1) := by decide +kernel
theorem dX3_build_265 : decode cX3_build 265 = .ok (.imul, 1) := by decide +kernel
theorem dX3_build_266 : decode cX3_build 266 = .ok (.istore_n 1, 1) := by decide +kernel
theorem dX3_build_267 : decode cX3_build 267 = .ok (.goto (-230), 3) := by decide +kernel
theorem dX3_build_270 : decode cX3_build 270 = .ok (.aload_n 0, 1) := by decide +kernel
theorem dX3_build_271 : decode cX3_build 271 = .ok (.iconst 1, 1) := by decide +kernel
theorem dX3_build_272 : decode cX3_build 272 = .ok (.putfield 35, 3) := by decide +kernel
theorem dX3_build_275 : decode cX3_build 275 = .ok (.aload_n 0, 1) := by decide +kernel
theorem dX3_build_276 : decode cX3_build 276 = .ok (.getfield 32, 3) := by decide +kernel
theorem dX3_build_279 : decode cX3_build 279 = .ok (.ireturn, 1) := by decide +kernel
theorem dX3_isEnd_0 : decode cX3_isEnd 0 = .ok (.aload_n 0, 1) := by decide +kernel
theorem dX3_isEnd_1 : decode cX3_isEnd 1 = .ok (.getfield 35, 3) := by decide +kernel
theorem dX3_isEnd_4 : decode cX3_isEnd 4 = .ok (.ifCond .eq 19, 3) := by decide +kernel
theorem dX3_isEnd_7 : decode cX3_isEnd 7 = .ok (.iload_n 1, 1) := by decide +kernel
theorem dX3_isEnd_8 : decode cX3_isEnd 8 = .ok (.ifCond .lt 15, 3) := by decide +kernel
theorem dX3_isEnd_11 : decode cX3_isEnd 11 = .ok (.iload_n 1, 1) := by decide +kernel
theorem dX3_isEnd_12 : decode cX3_isEnd 12 = .ok (.aload_n 0, 1) := by decide +kernel
theorem dX3_isEnd_13 : decode cX3_isEnd 13 = .ok (.getfield 32, 3) := by decide +kernel
theorem dX3_isEnd_16 : decode cX3_isEnd 16 = .ok (.if_icmp .ge 7, 3) := by decide +kernel
theorem dX3_isEnd_19 : decode cX3_isEnd 19 = .ok (.iconst 1, 1) := by decide +kernel
theorem dX3_isEnd_20 : decode cX3_isEnd 20 = .ok (.goto 4, 3) := by decide +kernel
theorem dX3_isEnd_23 : decode cX3_isEnd 23 = .ok (.iconst 0, 1) := by decide +kernel
theorem dX3_isEnd_24 : decode cX3_isEnd 24 = .ok (.ireturn, 1) := by decide +kernel
set_option maxRecDepth 20000 in
theorem ggX3_sa_X3_isEnd : GoodIn wsX3_sa wsX3_isEnd := goodIn_r _ [6, 7, 8, 9, 10, 11, 12, 13, 14, 15, 16, 17, 18, 19, 20, 21] (by decide +kernel) (by decide +kernel)
set_option maxRecDepth 20000 in
theorem gX3_sa_X3_isEnd : GoodIn wsX3_sa (wsV RX3 54 RX3 yX3_isEnd wsX3_isEnd) := goodIn_app (goodIn_of _ (by decide +kernel)) ggX3_sa_X3_isEnd
theorem dX3_sa_0 : decode cX3_sa 0 = .ok (.aload_n 0, 1) := by decide +kernel
theorem dX3_sa_1 : decode cX3_sa 1 = .ok (.iload_n 1, 1) := by decide +kernel
theorem dX3_sa_2 : decode cX3_sa 2 = .ok (.invokevirtual 54, 3) := by decide +kernel
theorem dX3_sa_5 : decode cX3_sa 5 = .ok (.ifCond .eq 12, 3) := by decide +kernel
theorem dX3_sa_8 : decode cX3_sa 8 = .ok (.aload_n 0, 1) := by decide +kernel
theorem dX3_sa_9 : decode cX3_sa 9 = .ok (.getfield 13, 3) := by decide +kernel
theorem dX3_sa_12 : decode cX3_sa 12 = .ok (.iload_n 1, 1) := by decide +kernel
theorem dX3_sa_13 : decode cX3_sa 13 = .ok (.iaload, 1) := by decide +kernel
theorem dX3_sa_14 : decode cX3_sa 14 = .ok (.goto 4, 3) := by decide +kernel
theorem dX3_sa_17 : decode cX3_sa 17 = .ok (.iconst (-1), 1) := by decide +kernel
theorem dX3_sa_18 : decode cX3_sa 18 = .ok (.ireturn, 1) := by decide +kernel
set_option maxRecDepth 20000 in
theorem ggX3_lcp_X3_isEnd : GoodIn wsX3_lcp wsX3_isEnd := goodIn_r _ [6, 7, 8, 14, 15, 16, 17, 18, 19, 20, 21, 22, 23, 24, 25, 26] (by decide +kernel) (by decide +kernel)
set_option maxRecDepth 20000 in
theorem gX3_lcp_X3_isEnd : GoodIn wsX3_lcp (wsV RX3 54 RX3 yX3_isEnd wsX3_isEnd) := goodIn_app (goodIn_of _ (by decide +kernel)) ggX3_lcp_X3_isEnd
set_option maxRecDepth 20000 in
theorem ggX3_lcp_X3_commonOf : GoodIn wsX3_lcp wsX3_commonOf := goodIn_r _ [12, 8, 13, 14, 15, 16, 17, 18, 19, 20, 21, 22, 23, 24, 25, 26] (by decide +kernel) (by decide +kernel)
set_option maxRecDepth 20000 in
theorem gX3_lcp_X3_commonOf : GoodIn wsX3_lcp (wsV RX3 46 RX3 yX3_commonOf wsX3_commonOf) := goodIn_app (goodIn_of _ (by decide +kernel)) ggX3_lcp_X3_commonOf
theorem dX3_lcp_0 : decode cX3_lcp 0 = .ok (.aload_n 0, 1) := by decide +kernel
theorem dX3_lcp_1 : decode cX3_lcp 1 = .ok (.iload_n 1, 1) := by decide +kernel
theorem dX3_lcp_2 : decode cX3_lcp 2 = .ok (.invokevirtual 54, 3) := by decide +kernel
theorem dX3_lcp_5 : decode cX3_lcp 5 = .ok (.ifCond .eq 28, 3) := by decide +kernel
theorem dX3_lcp_8 : decode cX3_lcp 8 = .ok (.iload_n 1, 1) := by decide +kernel
theorem dX3_lcp_9 : decode cX3_lcp 9 = .ok (.ifCond .le 24, 3) := by decide +kernel
theorem dX3_lcp_12 : decode cX3_lcp 12 = .ok (.aload_n 0, 1) := by decide +kernel
theorem dX3_lcp_13 : decode cX3_lcp 13 = .ok (.aload_n 0, 1) := by decide +kernel
theorem dX3_lcp_14 : decode cX3_lcp 14 = .ok (.getfield 13, 3) := by decide +kernel
theorem dX3_lcp_17 : decode cX3_lcp 17 = .ok (.iload_n 1, 1) := by decide +kernel
theorem dX3_lcp_18 : decode cX3_lcp 18 = .ok (.iconst 1, 1) := by decide +kernel
theorem dX3_lcp_19 : decode cX3_lcp 19 = .ok (.isub, 1) := by decide +kernel
theorem dX3_lcp_20 : decode cX3_lcp 20 = .ok (.iaload, 1) := by decide +kernel
theorem dX3_lcp_21 : decode cX3_lcp 21 = .ok (.aload_n 0, 1) := by decide +kernel
theorem dX3_lcp_22 : decode cX3_lcp 22 = .ok (.getfield 13, 3) := by decide +kernel
theorem dX3_lcp_25 : decode cX3_lcp 25 = .ok (.iload_n 1, 1) := by decide +kernel
theorem dX3_lcp_26 : decode cX3_lcp 26 = .ok (.iaload, 1) := by decide +kernel
theorem dX3_lcp_27 : decode cX3_lcp 27 = .ok (.invokevirtual 46, 3) := by decide +kernel
theorem dX3_lcp_30 : decode cX3_lcp 30 = .ok (.goto 4, 3) := by decide +kernel
theorem dX3_lcp_33 : decode cX3_lcp 33 = .ok (.iconst (-1), 1) := by decide +kernel
theorem dX3_lcp_34 : decode cX3_lcp 34 = .ok (.ireturn, 1) := by decide +kernel
set_option maxRecDepth 20000 in
theorem ggX3_rank_X3_isEnd : GoodIn wsX3_rank wsX3_isEnd := goodIn_r _ [6, 7, 8, 9, 10, 11, 12, 13, 14, 15, 16, 17, 18, 19, 20, 21] (by decide +kernel) (by decide +kernel)
set_option maxRecDepth 20000 in
theorem gX3_rank_X3_isEnd : GoodIn wsX3_rank (wsV RX3 54 RX3 yX3_isEnd wsX3_isEnd) := goodIn_app (goodIn_of _ (by decide +kernel)) ggX3_rank_X3_isEnd
theorem dX3_rank_0 : decode cX3_rank 0 = .ok (.aload_n 0, 1) := by decide +kernel
theorem dX3_rank_1 : decode cX3_rank 1 = .ok (.iload_n 1, 1) := by decide +kernel
theorem dX3_rank_2 : decode cX3_rank 2 = .ok (.invokevirtual 54, 3) := by decide +kernel
theorem dX3_rank_5 : decode cX3_rank 5 = .ok (.ifCond .ne 5, 3) := by decide +kernel
theorem dX3_rank_8 : decode cX3_rank 8 = .ok (.iconst (-1), 1) := by decide +kernel
theorem dX3_rank_9 : decode cX3_rank 9 = .ok (.ireturn, 1) := by decide +kernel
theorem dX3_rank_10 : decode cX3_rank 10 = .ok (.iconst 0, 1) := by decide +kernel
theorem dX3_rank_11 : decode cX3_rank 11 = .ok (.istore_n 2, 1) := by decide +kernel
theorem dX3_rank_12 : decode cX3_rank 12 = .ok (.aload_n 0, 1) := by decide +kernel
theorem dX3_rank_13 : decode cX3_rank 13 = .ok (.getfield 13, 3) := by decide +kernel
theorem dX3_rank_16 : decode cX3_rank 16 = .ok (.iload_n 2, 1) := by decide +kernel
theorem dX3_rank_17 : decode cX3_rank 17 = .ok (.iaload, 1) := by decide +kernel
theorem dX3_rank_18 : decode cX3_rank 18 = .ok (.iload_n 1, 1) := by decide +kernel
theorem dX3_rank_19 : decode cX3_rank 19 = .ok (.if_icmp .eq 9, 3) := by decide +kernel
theorem dX3_rank_22 : decode cX3_rank 22 = .ok (.iinc 2 1, 3) := by decide +kernel
theorem dX3_rank_25 : decode cX3_rank 25 = .ok (.goto (-13), 3) := by decide +kernel
theorem dX3_rank_28 : decode cX3_rank 28 = .ok (.iload_n 2, 1) := by decide +kernel
theorem dX3_rank_29 : decode cX3_rank 29 = .ok (.ireturn, 1) := by decide +kernel
set_option maxRecDepth 20000 in
theorem ggX3_common_X3_isEnd : GoodIn wsX3_common wsX3_isEnd := goodIn_r _ [5, 6, 7, 13, 14, 15, 16, 17, 18, 19, 20, 21, 22, 23, 24, 25] (by decide +kernel) (by decide +kernel)
set_option maxRecDepth 20000 in
theorem gX3_common_X3_isEnd : GoodIn wsX3_common (wsV RX3 54 RX3 yX3_isEnd wsX3_isEnd) := goodIn_app (goodIn_of _ (by decide +kernel)) ggX3_common_X3_isEnd
set_option maxRecDepth 20000 in
theorem ggX3_common_X3_commonOf : GoodIn wsX3_common wsX3_commonOf := goodIn_r _ [11, 7, 12, 13, 14, 15, 16, 17, 18, 19, 20, 21, 22, 23, 24, 25] (by decide +kernel) (by decide +kernel)
set_option maxRecDepth 20000 in
theorem gX3_common_X3_commonOf : GoodIn wsX3_common (wsV RX3 46 RX3 yX3_commonOf wsX3_commonOf) := goodIn_app (goodIn_of _ (by decide +kernel)) ggX3_common_X3_commonOf
theorem dX3_common_0 : decode cX3_common 0 = .ok (.aload_n 0, 1) := by decide +kernel
theorem dX3_common_1 : decode cX3_common 1 = .ok (.iload_n 1, 1) := by decide +kernel
theorem dX3_common_2 : decode cX3_common 2 = .ok (.invokevirtual 54, 3) := by decide +kernel
theorem dX3_common_5 : decode cX3_common 5 = .ok (.ifCond .eq 20, 3) := by decide +kernel
theorem dX3_common_8 : decode cX3_common 8 = .ok (.aload_n 0, 1) := by decide +kernel
theorem dX3_common_9 : decode cX3_common 9 = .ok (.iload_n 2, 1) := by decide +kernel
theorem dX3_common_10 : decode cX3_common 10 = .ok (.invokevirtual 54, 3) := by decide +kernel
theorem dX3_common_13 : decode cX3_common 13 = .ok (.ifCond .eq 12, 3) := by decide +kernel
theorem dX3_common_16 : decode cX3_common 16 = .ok (.aload_n 0, 1) := by decide +kernel
theorem dX3_common_17 : decode cX3_common 17 = .ok (.iload_n 1, 1) := by decide +kernel
theorem dX3_common_18 : decode cX3_common 18 = .ok (.iload_n 2, 1) := by decide +kernel
theorem dX3_common_19 : decode cX3_common 19 = .ok (.invokevirtual 46, 3) := by decide +kernel
theorem dX3_common_22 : decode cX3_common 22 = .ok (.goto 4, 3) := by decide +kernel
theorem dX3_common_25 : decode cX3_common 25 = .ok (.iconst (-1), 1) := by decide +kernel
theorem dX3_common_26 : decode cX3_common 26 = .ok (.ireturn, 1) := by decide +kernel
theorem dX3_patFeed_0 : decode cX3_patFeed 0 = .ok (.iload_n 1, 1) := by decide +kernel
theorem dX3_patFeed_1 : decode cX3_patFeed 1 = .ok (.ifCond .lt 22, 3) := by decide +kernel
theorem dX3_patFeed_4 : decode cX3_patFeed 4 = .ok (.iload_n 1, 1) := by decide +kernel
theorem dX3_patFeed_5 : decode cX3_patFeed 5 = .ok (.aload_n 0, 1) := by decide +kernel
theorem dX3_patFeed_6 : decode cX3_patFeed 6 = .ok (.getfield 26, 3) := by decide +kernel
theorem dX3_patFeed_9 : decode cX3_patFeed 9 = .ok (.if_icmp .ge 14, 3) := by decide +kernel
theorem dX3_patFeed_12 : decode cX3_patFeed 12 = .ok (.aload_n 0, 1) := by decide +kernel
theorem dX3_patFeed_13 : decode cX3_patFeed 13 = .ok (.getfield 57, 3) := by decide +kernel
theorem dX3_patFeed_16 : decode cX3_patFeed 16 = .ok (.aload_n 0, 1) := by decide +kernel
theorem dX3_patFeed_17 : decode cX3_patFeed 17 = .ok (.getfield 29, 3) := by decide +kernel
theorem dX3_patFeed_20 : decode cX3_patFeed 20 = .ok (.if_icmp .ne 5, 3) := by decide +kernel
theorem dX3_patFeed_23 : decode cX3_patFeed 23 = .ok (.iconst 0, 1) := by decide +kernel
theorem dX3_patFeed_24 : decode cX3_patFeed 24 = .ok (.ireturn, 1) := by decide +kernel
theorem dX3_patFeed_25 : decode cX3_patFeed 25 = .ok (.aload_n 0, 1) := by decide +kernel
theorem dX3_patFeed_26 : decode cX3_patFeed 26 = .ok (.getfield 19, 3) := by decide +kernel
theorem dX3_patFeed_29 : decode cX3_patFeed 29 = .ok (.aload_n 0, 1) := by decide +kernel
theorem dX3_patFeed_30 : decode cX3_patFeed 30 = .ok (.getfield 57, 3) := by decide +kernel
theorem dX3_patFeed_33 : decode cX3_patFeed 33 = .ok (.iload_n 1, 1) := by decide +kernel
theorem dX3_patFeed_34 : decode cX3_patFeed 34 = .ok (.iastore, 1) := by decide +kernel
theorem dX3_patFeed_35 : decode cX3_patFeed 35 = .ok (.aload_n 0, 1) := by decide +kernel
theorem dX3_patFeed_36 : decode cX3_patFeed 36 = .ok (.dup, 1) := by decide +kernel
theorem dX3_patFeed_37 : decode cX3_patFeed 37 = .ok (.getfield 57, 3) := by decide +kernel
theorem dX3_patFeed_40 : decode cX3_patFeed 40 = .ok (.iconst 1, 1) := by decide +kernel
theorem dX3_patFeed_41 : decode cX3_patFeed 41 = .ok (.iadd, 1) := by decide +kernel
theorem dX3_patFeed_42 : decode cX3_patFeed 42 = .ok (.putfield 57, 3) := by decide +kernel
theorem dX3_patFeed_45 : decode cX3_patFeed 45 = .ok (.aload_n 0, 1) := by decide +kernel
theorem dX3_patFeed_46 : decode cX3_patFeed 46 = .ok (.iconst 0, 1) := by decide +kernel
theorem dX3_patFeed_47 : decode cX3_patFeed 47 = .ok (.putfield 39, 3) := by decide +kernel
theorem dX3_patFeed_50 : decode cX3_patFeed 50 = .ok (.iconst 1, 1) := by decide +kernel
theorem dX3_patFeed_51 : decode cX3_patFeed 51 = .ok (.ireturn, 1) := by decide +kernel
theorem dX3_patClear_0 : decode cX3_patClear 0 = .ok (.aload_n 0, 1) := by decide +kernel
theorem dX3_patClear_1 : decode cX3_patClear 1 = .ok (.iconst 0, 1) := by decide +kernel
theorem dX3_patClear_2 : decode cX3_patClear 2 = .ok (.putfield 57, 3) := by decide +kernel
theorem dX3_patClear_5 : decode cX3_patClear 5 = .ok (.aload_n 0, 1) := by decide +kernel
theorem dX3_patClear_6 : decode cX3_patClear 6 = .ok (.iconst 0, 1) := by decide +kernel
theorem dX3_patClear_7 : decode cX3_patClear 7 = .ok (.putfield 39, 3) := by decide +kernel
theorem dX3_patClear_10 : decode cX3_patClear 10 = .ok (.return_, 1) := by decide +kernel
theorem dX3_begins_0 : decode cX3_begins 0 = .ok (.iconst 0, 1) := by decide +kernel
theorem dX3_begins_1 : decode cX3_begins 1 = .ok (.istore_n 2, 1) := by decide +kernel
theorem dX3_begins_2 : decode cX3_begins 2 = .ok (.iload_n 2, 1) := by decide +kernel
theorem dX3_begins_3 : decode cX3_begins 3 = .ok (.aload_n 0, 1) := by decide +kernel
theorem dX3_begins_4 : decode cX3_begins 4 = .ok (.getfield 57, 3) := by decide +kernel
theorem dX3_begins_7 : decode cX3_begins 7 = .ok (.if_icmp .ge 38, 3) := by decide +kernel
theorem dX3_begins_10 : decode cX3_begins 10 = .ok (.iload_n 1, 1) := by decide +kernel
theorem dX3_begins_11 : decode cX3_begins 11 = .ok (.iload_n 2, 1) := by decide +kernel
theorem dX3_begins_12 : decode cX3_begins 12 = .ok (.iadd, 1) := by decide +kernel
theorem dX3_begins_13 : decode cX3_begins 13 = .ok (.aload_n 0, 1) := by decide +kernel
theorem dX3_begins_14 : decode cX3_begins 14 = .ok (.getfield 32, 3) := by decide +kernel
theorem dX3_begins_17 : decode cX3_begins 17 = .ok (.if_icmp .ge 20, 3) := by decide +kernel
theorem dX3_begins_20 : decode cX3_begins 20 = .ok (.aload_n 0, 1) := by decide +kernel
theorem dX3_begins_21 : decode cX3_begins 21 = .ok (.getfield 7, 3) := by decide +kernel
theorem dX3_begins_24 : decode cX3_begins 24 = .ok (.iload_n 1, 1) := by decide +kernel
theorem dX3_begins_25 : decode cX3_begins 25 = .ok (.iload_n 2, 1) := by decide +kernel
theorem dX3_begins_26 : decode cX3_begins 26 = .ok (.iadd, 1) := by decide +kernel
theorem dX3_begins_27 : decode cX3_begins 27 = .ok (.iaload, 1) := by decide +kernel
theorem dX3_begins_28 : decode cX3_begins 28 = .ok (.aload_n 0, 1) := by decide +kernel
theorem dX3_begins_29 : decode cX3_begins 29 = .ok (.getfield 19, 3) := by decide +kernel
theorem dX3_begins_32 : decode cX3_begins 32 = .ok (.iload_n 2, 1) := by decide +kernel
theorem dX3_begins_33 : decode cX3_begins 33 = .ok (.iaload, 1) := by decide +kernel
theorem dX3_begins_34 : decode cX3_begins 34 = .ok (.if_icmp .eq 5, 3) := by decide +kernel
theorem dX3_begins_37 : decode cX3_begins 37 = .ok (.iconst 0, 1) := by decide +kernel
theorem dX3_begins_38 : decode cX3_begins 38 = .ok (.ireturn, 1) := by decide +kernel
theorem dX3_begins_39 : decode cX3_begins 39 = .ok (.iinc 2 1, 3) := by decide +kernel
theorem dX3_begins_42 : decode cX3_begins 42 = .ok (.goto (-40), 3) := by decide +kernel
theorem dX3_begins_45 : decode cX3_begins 45 = .ok (.iconst 1, 1) := by decide +kernel
theorem dX3_begins_46 : decode cX3_begins 46 = .ok (.ireturn, 1) := by decide +kernel
set_option maxRecDepth 20000 in
theorem ggX3_search_X3_begins : GoodIn wsX3_search wsX3_begins := goodIn_r _ [11, 12, 4, 13, 14, 15, 16, 17, 18, 19, 20, 21, 22, 23, 24, 25, 26, 27] (by decide +kernel) (by decide +kernel)
set_option maxRecDepth 20000 in
theorem gX3_search_X3_begins : GoodIn wsX3_search (wsV RX3 63 RX3 yX3_begins wsX3_begins) := goodIn_app (goodIn_of _ (by decide +kernel)) ggX3_search_X3_begins
theorem dX3_search_0 : decode cX3_search 0 = .ok (.aload_n 0, 1) := by decide +kernel
theorem dX3_search_1 : decode cX3_search 1 = .ok (.aload_n 0, 1) := by decide +kernel
theorem dX3_search_2 : decode cX3_search 2 = .ok (.getfield 35, 3) := by decide +kernel
theorem dX3_search_5 : decode cX3_search 5 = .ok (.putfield 39, 3) := by decide +kernel
theorem dX3_search_8 : decode cX3_search 8 = .ok (.aload_n 0, 1) := by decide +kernel
theorem dX3_search_9 : decode cX3_search 9 = .ok (.getfield 35, 3) := by decide +kernel
theorem dX3_search_12 : decode cX3_search 12 = .ok (.ifCond .ne 5, 3) := by decide +kernel
theorem dX3_search_15 : decode cX3_search 15 = .ok (.iconst (-1), 1) := by decide +kernel
theorem dX3_search_16 : decode cX3_search 16 = .ok (.ireturn, 1) := by decide +kernel
theorem dX3_search_17 : decode cX3_search 17 = .ok (.aload_n 0, 1) := by decide +kernel
theorem dX3_search_18 : decode cX3_search 18 = .ok (.iconst 0, 1) := by decide +kernel
theorem dX3_search_19 : decode cX3_search 19 = .ok (.putfield 60, 3) := by decide +kernel
theorem dX3_search_22 : decode cX3_search 22 = .ok (.aload_n 0, 1) := by decide +kernel
theorem dX3_search_23 : decode cX3_search 23 = .ok (.getfield 32, 3) := by decide +kernel
theorem dX3_search_26 : decode cX3_search 26 = .ok (.iconst 1, 1) := by decide +kernel
theorem dX3_search_27 : decode cX3_search 27 = .ok (.isub, 1) := by decide +kernel
theorem dX3_search_28 : decode cX3_search 28 = .ok (.istore_n 1, 1) := by decide +kernel
theorem dX3_search_29 : decode cX3_search 29 = .ok (.iload_n 1, 1) := by decide +kernel
theorem dX3_search_30 : decode cX3_search 30 = .ok (.ifCond .lt 37, 3) := by decide +kernel
theorem dX3_search_33 : decode cX3_search 33 = .ok (.aload_n 0, 1) := by decide +kernel
theorem dX3_search_34 : decode cX3_search 34 = .ok (.aload_n 0, 1) := by decide +kernel
theorem dX3_search_35 : decode cX3_search 35 = .ok (.getfield 13, 3) := by decide +kernel
theorem dX3_search_38 : decode cX3_search 38 = .ok (.iload_n 1, 1) := by decide +kernel
theorem dX3_search_39 : decode cX3_search 39 = .ok (.iaload, 1) := by decide +kernel
theorem dX3_search_40 : decode cX3_search 40 = .ok (.invokevirtual 63, 3) := by decide +kernel
theorem dX3_search_43 : decode cX3_search 43 = .ok (.ifCond .eq 18, 3) := by decide +kernel
theorem dX3_search_46 : decode cX3_search 46 = .ok (.aload_n 0, 1) := by decide +kernel
theorem dX3_search_47 : decode cX3_search 47 = .ok (.iload_n 1, 1) := by decide +kernel
theorem dX3_search_48 : decode cX3_search 48 = .ok (.putfield 66, 3) := by decide +kernel
theorem dX3_search_51 : decode cX3_search 51 = .ok (.aload_n 0, 1) := by decide +kernel
theorem dX3_search_52 : decode cX3_search 52 = .ok (.dup, 1) := by decide +kernel
theorem dX3_search_53 : decode cX3_search 53 = .ok (.getfield 60, 3) := by decide +kernel
theorem dX3_search_56 : decode cX3_search 56 = .ok (.iconst 1, 1) := by decide +kernel
theorem dX3_search_57 : decode cX3_search 57 = .ok (.iadd, 1) := by decide +kernel
theorem dX3_search_58 : decode cX3_search 58 = .ok (.putfield 60, 3) := by decide +kernel
theorem dX3_search_61 : decode cX3_search 61 = .ok (.iinc 1 (-1), 3) := by decide +kernel
theorem dX3_search_64 : decode cX3_search 64 = .ok (.goto (-35), 3) := by decide +kernel
theorem dX3_search_67 : decode cX3_search 67 = .ok (.aload_n 0, 1) := by decide +kernel
theorem dX3_search_68 : decode cX3_search 68 = .ok (.getfield 60, 3) := by decide +kernel
theorem dX3_search_71 : decode cX3_search 71 = .ok (.ireturn, 1) := by decide +kernel
theorem dX3_hit_0 : decode cX3_hit 0 = .ok (.aload_n 0, 1) := by decide +kernel
theorem dX3_hit_1 : decode cX3_hit 1 = .ok (.getfield 39, 3) := by decide +kernel
theorem dX3_hit_4 : decode cX3_hit 4 = .ok (.ifCond .eq 29, 3) := by decide +kernel
theorem dX3_hit_7 : decode cX3_hit 7 = .ok (.iload_n 1, 1) := by decide +kernel
theorem dX3_hit_8 : decode cX3_hit 8 = .ok (.ifCond .lt 25, 3) := by decide +kernel
theorem dX3_hit_11 : decode cX3_hit 11 = .ok (.iload_n 1, 1) := by decide +kernel
theorem dX3_hit_12 : decode cX3_hit 12 = .ok (.aload_n 0, 1) := by decide +kernel
theorem dX3_hit_13 : decode cX3_hit 13 = .ok (.getfield 60, 3) := by decide +kernel
theorem dX3_hit_16 : decode cX3_hit 16 = .ok (.if_icmp .ge 17, 3) := by decide +kernel
theorem dX3_hit_19 : decode cX3_hit 19 = .ok (.aload_n 0, 1) := by decide +kernel
theorem dX3_hit_20 : decode cX3_hit 20 = .ok (.getfield 13, 3) := by decide +kernel
theorem dX3_hit_23 : decode cX3_hit 23 = .ok (.aload_n 0, 1) := by decide +kernel
theorem dX3_hit_24 : decode cX3_hit 24 = .ok (.getfield 66, 3) := by decide +kernel
theorem dX3_hit_27 : decode cX3_hit 27 = .ok (.iload_n 1, 1) := by decide +kernel
theorem dX3_hit_28 : decode cX3_hit 28 = .ok (.iadd, 1) := by decide +kernel
theorem dX3_hit_29 : decode cX3_hit 29 = .ok (.iaload, 1) := by decide +kernel
theorem dX3_hit_30 : decode cX3_hit 30 = .ok (.goto 4, 3) := by decide +kernel
theorem dX3_hit_33 : decode cX3_hit 33 = .ok (.iconst (-1), 1) := by decide +kernel
theorem dX3_hit_34 : decode cX3_hit 34 = .ok (.ireturn, 1) := by decide +kernel
set_option maxRecDepth 20000 in
theorem ggX3_repeated_X3_commonOf : GoodIn wsX3_repeated wsX3_commonOf := goodIn_r _ [8, 2, 9, 10, 11, 12, 13, 14, 15, 16, 17, 18, 19, 20, 21, 22] (by decide +kernel) (by decide +kernel)
set_option maxRecDepth 20000 in
theorem gX3_repeated_X3_commonOf : GoodIn wsX3_repeated (wsV RX3 46 RX3 yX3_commonOf wsX3_commonOf) := goodIn_app (goodIn_of _ (by decide +kernel)) ggX3_repeated_X3_commonOf
theorem dX3_repeated_0 : decode cX3_repeated 0 = .ok (.aload_n 0, 1) := by decide +kernel
theorem dX3_repeated_1 : decode cX3_repeated 1 = .ok (.getfield 35, 3) := by decide +kernel
theorem dX3_repeated_4 : decode cX3_repeated 4 = .ok (.ifCond .ne 5, 3) := by decide +kernel
theorem dX3_repeated_7 : decode cX3_repeated 7 = .ok (.iconst (-1), 1) := by decide +kernel
theorem dX3_repeated_8 : decode cX3_repeated 8 = .ok (.ireturn, 1) := by decide +kernel
theorem dX3_repeated_9 : decode cX3_repeated 9 = .ok (.iconst 0, 1) := by decide +kernel
theorem dX3_repeated_10 : decode cX3_repeated 10 = .ok (.istore_n 1, 1) := by decide +kernel
theorem dX3_repeated_11 : decode cX3_repeated 11 = .ok (.iconst 1, 1) := by decide +kernel
theorem dX3_repeated_12 : decode cX3_repeated 12 = .ok (.istore_n 2, 1) := by decide +kernel
theorem dX3_repeated_13 : decode cX3_repeated 13 = .ok (.iload_n 2, 1) := by decide +kernel
theorem dX3_repeated_14 : decode cX3_repeated 14 = .ok (.aload_n 0, 1) := by decide +kernel
theorem dX3_repeated_15 : decode cX3_repeated 15 = .ok (.getfield 32, 3) := by decide +kernel
theorem dX3_repeated_18 : decode cX3_repeated 18 = .ok (.if_icmp .ge 39, 3) := by decide +kernel
theorem dX3_repeated_21 : decode cX3_repeated 21 = .ok (.aload_n 0, 1) := by decide +kernel
theorem dX3_repeated_22 : decode cX3_repeated 22 = .ok (.aload_n 0, 1) := by decide +kernel
theorem dX3_repeated_23 : decode cX3_repeated 23 = .ok (.getfield 13, 3) := by decide +kernel
theorem dX3_repeated_26 : decode cX3_repeated 26 = .ok (.iload_n 2, 1) := by decide +kernel
theorem dX3_repeated_27 : decode cX3_repeated 27 = .ok (.iconst 1, 1) := by decide +kernel
theorem dX3_repeated_28 : decode cX3_repeated 28 = .ok (.isub, 1) := by decide +kernel
theorem dX3_repeated_29 : decode cX3_repeated 29 = .ok (.iaload, 1) := by decide +kernel
theorem dX3_repeated_30 : decode cX3_repeated 30 = .ok (.aload_n 0, 1) := by decide +kernel
theorem dX3_repeated_31 : decode cX3_repeated 31 = .ok (.getfield 13, 3) := by decide +kernel
theorem dX3_repeated_34 : decode cX3_repeated 34 = .ok (.iload_n 2, 1) := by decide +kernel
theorem dX3_repeated_35 : decode cX3_repeated 35 = .ok (.iaload, 1) := by decide +kernel
theorem dX3_repeated_36 : decode cX3_repeated 36 = .ok (.invokevirtual 46, 3) := by decide +kernel
theorem dX3_repeated_39 : decode cX3_repeated 39 = .ok (.istore_n 3, 1) := by decide +kernel
theorem dX3_repeated_40 : decode cX3_repeated 40 = .ok (.iload_n 3, 1) := by decide +kernel
theorem dX3_repeated_41 : decode cX3_repeated 41 = .ok (.iload_n 1, 1) := by decide +kernel
theorem dX3_repeated_42 : decode cX3_repeated 42 = .ok (.if_icmp .le 7, 3) := by decide +kernel
theorem dX3_repeated_45 : decode cX3_repeated 45 = .ok (.iload_n 3, 1) := by decide +kernel
theorem dX3_repeated_46 : decode cX3_repeated 46 = .ok (.goto 4, 3) := by decide +kernel
theorem dX3_repeated_49 : decode cX3_repeated 49 = .ok (.iload_n 1, 1) := by decide +kernel
theorem dX3_repeated_50 : decode cX3_repeated 50 = .ok (.istore_n 1, 1) := by decide +kernel
theorem dX3_repeated_51 : decode cX3_repeated 51 = .ok (.iinc 2 1, 3) := by decide +kernel
theorem dX3_repeated_54 : decode cX3_repeated 54 = .ok (.goto (-41), 3) := by decide +kernel
theorem dX3_repeated_57 : decode cX3_repeated 57 = .ok (.iload_n 1, 1) := by decide +kernel
theorem dX3_repeated_58 : decode cX3_repeated 58 = .ok (.ireturn, 1) := by decide +kernel
set_option maxRecDepth 20000 in
theorem ggX3_repeatedAt_X3_repeated : GoodIn wsX3_repeatedAt wsX3_repeated := goodIn_r _ [7, 8, 2, 1, 9, 10, 11, 6, 12, 13, 14, 15, 16, 17, 18, 19, 20, 21, 22, 23, 24, 25, 26] (by decide +kernel) (by decide +kernel)
set_option maxRecDepth 20000 in
theorem gX3_repeatedAt_X3_repeated : GoodIn wsX3_repeatedAt (wsV RX3 69 RX3 yX3_repeated wsX3_repeated) := goodIn_app (goodIn_of _ (by decide +kernel)) ggX3_repeatedAt_X3_repeated
set_option maxRecDepth 20000 in
theorem ggX3_repeatedAt_X3_commonOf : GoodIn wsX3_repeatedAt wsX3_commonOf := goodIn_r _ [12, 2, 13, 14, 15, 16, 17, 18, 19, 20, 21, 22, 23, 24, 25, 26] (by decide +kernel) (by decide +kernel)
set_option maxRecDepth 20000 in
theorem gX3_repeatedAt_X3_commonOf : GoodIn wsX3_repeatedAt (wsV RX3 46 RX3 yX3_commonOf wsX3_commonOf) := goodIn_app (goodIn_of _ (by decide +kernel)) ggX3_repeatedAt_X3_commonOf
theorem dX3_repeatedAt_0 : decode cX3_repeatedAt 0 = .ok (.aload_n 0, 1) := by decide +kernel
theorem dX3_repeatedAt_1 : decode cX3_repeatedAt 1 = .ok (.invokevirtual 69, 3) := by decide +kernel
theorem dX3_repeatedAt_4 : decode cX3_repeatedAt 4 = .ok (.istore_n 1, 1) := by decide +kernel
theorem dX3_repeatedAt_5 : decode cX3_repeatedAt 5 = .ok (.iload_n 1, 1) := by decide +kernel
theorem dX3_repeatedAt_6 : decode cX3_repeatedAt 6 = .ok (.iconst 1, 1) := by decide +kernel
theorem dX3_repeatedAt_7 : decode cX3_repeatedAt 7 = .ok (.if_icmp .ge 5, 3) := by decide +kernel
theorem dX3_repeatedAt_10 : decode cX3_repeatedAt 10 = .ok (.iconst (-1), 1) := by decide +kernel
theorem dX3_repeatedAt_11 : decode cX3_repeatedAt 11 = .ok (.ireturn, 1) := by decide +kernel
theorem dX3_repeatedAt_12 : decode cX3_repeatedAt 12 = .ok (.iconst 1, 1) := by decide +kernel
theorem dX3_repeatedAt_13 : decode cX3_repeatedAt 13 = .ok (.istore_n 2, 1) := by decide +kernel
theorem dX3_repeatedAt_14 : decode cX3_repeatedAt 14 = .ok (.aload_n 0, 1) := by decide +kernel
theorem dX3_repeatedAt_15 : decode cX3_repeatedAt 15 = .ok (.aload_n 0, 1) := by decide +kernel
theorem dX3_repeatedAt_16 : decode cX3_repeatedAt 16 = .ok (.getfield 13, 3) := by decide +kernel
theorem dX3_repeatedAt_19 : decode cX3_repeatedAt 19 = .ok (.iload_n 2, 1) := by decide +kernel
theorem dX3_repeatedAt_20 : decode cX3_repeatedAt 20 = .ok (.iconst 1, 1) := by decide +kernel
theorem dX3_repeatedAt_21 : decode cX3_repeatedAt 21 = .ok (.isub, 1) := by decide +kernel
theorem dX3_repeatedAt_22 : decode cX3_repeatedAt 22 = .ok (.iaload, 1) := by decide +kernel
theorem dX3_repeatedAt_23 : decode cX3_repeatedAt 23 = .ok (.aload_n 0, 1) := by decide +kernel
theorem dX3_repeatedAt_24 : decode cX3_repeatedAt 24 = .ok (.getfield 13, 3) := by decide +kernel
theorem dX3_repeatedAt_27 : decode cX3_repeatedAt 27 = .ok (.iload_n 2, 1) := by decide +kernel
theorem dX3_repeatedAt_28 : decode cX3_repeatedAt 28 = .ok (.iaload, 1) := by decide +kernel
theorem dX3_repeatedAt_29 : decode cX3_repeatedAt 29 = .ok (.invokevirtual 46, 3) := by decide +kernel
theorem dX3_repeatedAt_32 : decode cX3_repeatedAt 32 = .ok (.iload_n 1, 1) := by decide +kernel
theorem dX3_repeatedAt_33 : decode cX3_repeatedAt 33 = .ok (.if_icmp .ge 9, 3) := by decide +kernel
theorem dX3_repeatedAt_36 : decode cX3_repeatedAt 36 = .ok (.iinc 2 1, 3) := by decide +kernel
theorem dX3_repeatedAt_39 : decode cX3_repeatedAt 39 = .ok (.goto (-25), 3) := by decide +kernel
theorem dX3_repeatedAt_42 : decode cX3_repeatedAt 42 = .ok (.aload_n 0, 1) := by decide +kernel
theorem dX3_repeatedAt_43 : decode cX3_repeatedAt 43 = .ok (.getfield 13, 3) := by decide +kernel
theorem dX3_repeatedAt_46 : decode cX3_repeatedAt 46 = .ok (.iload_n 2, 1) := by decide +kernel
theorem dX3_repeatedAt_47 : decode cX3_repeatedAt 47 = .ok (.iconst 1, 1) := by decide +kernel
theorem dX3_repeatedAt_48 : decode cX3_repeatedAt 48 = .ok (.isub, 1) := by decide +kernel
theorem dX3_repeatedAt_49 : decode cX3_repeatedAt 49 = .ok (.iaload, 1) := by decide +kernel
theorem dX3_repeatedAt_50 : decode cX3_repeatedAt 50 = .ok (.istore_n 3, 1) := by decide +kernel
theorem dX3_repeatedAt_51 : decode cX3_repeatedAt 51 = .ok (.iload_n 2, 1) := by decide +kernel
theorem dX3_repeatedAt_52 : decode cX3_repeatedAt 52 = .ok (.aload_n 0, 1) := by decide +kernel
theorem dX3_repeatedAt_53 : decode cX3_repeatedAt 53 = .ok (.getfield 32, 3) := by decide +kernel
theorem dX3_repeatedAt_56 : decode cX3_repeatedAt 56 = .ok (.if_icmp .ge 52, 3) := by decide +kernel
theorem dX3_repeatedAt_59 : decode cX3_repeatedAt 59 = .ok (.aload_n 0, 1) := by decide +kernel
theorem dX3_repeatedAt_60 : decode cX3_repeatedAt 60 = .ok (.aload_n 0, 1) := by decide +kernel
theorem dX3_repeatedAt_61 : decode cX3_repeatedAt 61 = .ok (.getfield 13, 3) := by decide +kernel
theorem dX3_repeatedAt_64 : decode cX3_repeatedAt 64 = .ok (.iload_n 2, 1) := by decide +kernel
theorem dX3_repeatedAt_65 : decode cX3_repeatedAt 65 = .ok (.iconst 1, 1) := by decide +kernel
theorem dX3_repeatedAt_66 : decode cX3_repeatedAt 66 = .ok (.isub, 1) := by decide +kernel
theorem dX3_repeatedAt_67 : decode cX3_repeatedAt 67 = .ok (.iaload, 1) := by decide +kernel
theorem dX3_repeatedAt_68 : decode cX3_repeatedAt 68 = .ok (.aload_n 0, 1) := by decide +kernel
theorem dX3_repeatedAt_69 : decode cX3_repeatedAt 69 = .ok (.getfield 13, 3) := by decide +kernel
theorem dX3_repeatedAt_72 : decode cX3_repeatedAt 72 = .ok (.iload_n 2, 1) := by decide +kernel
theorem dX3_repeatedAt_73 : decode cX3_repeatedAt 73 = .ok (.iaload, 1) := by decide +kernel
theorem dX3_repeatedAt_74 : decode cX3_repeatedAt 74 = .ok (.invokevirtual 46, 3) := by decide +kernel
theorem dX3_repeatedAt_77 : decode cX3_repeatedAt 77 = .ok (.iload_n 1, 1) := by decide +kernel
theorem dX3_repeatedAt_78 : decode cX3_repeatedAt 78 = .ok (.if_icmp .ne 30, 3) := by decide +kernel
theorem dX3_repeatedAt_81 : decode cX3_repeatedAt 81 = .ok (.aload_n 0, 1) := by decide +kernel
theorem dX3_repeatedAt_82 : decode cX3_repeatedAt 82 = .ok (.getfield 13, 3) := by decide +kernel
theorem dX3_repeatedAt_85 : decode cX3_repeatedAt 85 = .ok (.iload_n 2, 1) := by decide +kernel
theorem dX3_repeatedAt_86 : decode cX3_repeatedAt 86 = .ok (.iaload, 1) := by decide +kernel
theorem dX3_repeatedAt_87 : decode cX3_repeatedAt 87 = .ok (.iload_n 3, 1) := by decide +kernel
theorem dX3_repeatedAt_88 : decode cX3_repeatedAt 88 = .ok (.if_icmp .ge 12, 3) := by decide +kernel
theorem dX3_repeatedAt_91 : decode cX3_repeatedAt 91 = .ok (.aload_n 0, 1) := by decide +kernel
theorem dX3_repeatedAt_92 : decode cX3_repeatedAt 92 = .ok (.getfield 13, 3) := by decide +kernel
theorem dX3_repeatedAt_95 : decode cX3_repeatedAt 95 = .ok (.iload_n 2, 1) := by decide +kernel
theorem dX3_repeatedAt_96 : decode cX3_repeatedAt 96 = .ok (.iaload, 1) := by decide +kernel
theorem dX3_repeatedAt_97 : decode cX3_repeatedAt 97 = .ok (.goto 4, 3) := by decide +kernel
theorem dX3_repeatedAt_100 : decode cX3_repeatedAt 100 = .ok (.iload_n 3, 1) := by decide +kernel
theorem dX3_repeatedAt_101 : decode cX3_repeatedAt 101 = .ok (.istore_n 3, 1) := by decide +kernel
theorem dX3_repeatedAt_102 : decode cX3_repeatedAt 102 = .ok (.iinc 2 1, 3) := by decide +kernel
theorem dX3_repeatedAt_105 : decode cX3_repeatedAt 105 = .ok (.goto (-54), 3) := by decide +kernel
theorem dX3_repeatedAt_108 : decode cX3_repeatedAt 108 = .ok (.iload_n 3, 1) := by decide +kernel
theorem dX3_repeatedAt_109 : decode cX3_repeatedAt 109 = .ok (.ireturn, 1) := by decide +kernel
set_option maxRecDepth 20000 in
theorem ggX3_different_X3_commonOf : GoodIn wsX3_different wsX3_commonOf := goodIn_r _ [8, 2, 9, 10, 11, 12, 13, 14, 15, 16, 17, 18, 19, 20, 21, 22] (by decide +kernel) (by decide +kernel)
set_option maxRecDepth 20000 in
theorem gX3_different_X3_commonOf : GoodIn wsX3_different (wsV RX3 46 RX3 yX3_commonOf wsX3_commonOf) := goodIn_app (goodIn_of _ (by decide +kernel)) ggX3_different_X3_commonOf
theorem dX3_different_0 : decode cX3_different 0 = .ok (.aload_n 0, 1) := by decide +kernel
theorem dX3_different_1 : decode cX3_different 1 = .ok (.getfield 35, 3) := by decide +kernel
theorem dX3_different_4 : decode cX3_different 4 = .ok (.ifCond .ne 5, 3) := by decide +kernel
theorem dX3_different_7 : decode cX3_different 7 = .ok (.iconst (-1), 1) := by decide +kernel
theorem dX3_different_8 : decode cX3_different 8 = .ok (.ireturn, 1) := by decide +kernel
theorem dX3_different_9 : decode cX3_different 9 = .ok (.iconst 0, 1) := by decide +kernel
theorem dX3_different_10 : decode cX3_different 10 = .ok (.istore_n 1, 1) := by decide +kernel
theorem dX3_different_11 : decode cX3_different 11 = .ok (.iconst 0, 1) := by decide +kernel
theorem dX3_different_12 : decode cX3_different 12 = .ok (.istore_n 2, 1) := by decide +kernel
theorem dX3_different_13 : decode cX3_different 13 = .ok (.iload_n 2, 1) := by decide +kernel
theorem dX3_different_14 : decode cX3_different 14 = .ok (.aload_n 0, 1) := by decide +kernel
theorem dX3_different_15 : decode cX3_different 15 = .ok (.getfield 32, 3) := by decide +kernel
theorem dX3_different_18 : decode cX3_different 18 = .ok (.if_icmp .ge 50, 3) := by decide +kernel
theorem dX3_different_21 : decode cX3_different 21 = .ok (.iload_n 1, 1) := by decide +kernel
theorem dX3_different_22 : decode cX3_different 22 = .ok (.aload_n 0, 1) := by decide +kernel
theorem dX3_different_23 : decode cX3_different 23 = .ok (.getfield 32, 3) := by decide +kernel
theorem dX3_different_26 : decode cX3_different 26 = .ok (.iadd, 1) := by decide +kernel
theorem dX3_different_27 : decode cX3_different 27 = .ok (.aload_n 0, 1) := by decide +kernel
theorem dX3_different_28 : decode cX3_different 28 = .ok (.getfield 13, 3) := by decide +kernel
theorem dX3_different_31 : decode cX3_different 31 = .ok (.iload_n 2, 1) := by decide +kernel
theorem dX3_different_32 : decode cX3_different 32 = .ok (.iaload, 1) := by decide +kernel
theorem dX3_different_33 : decode cX3_different 33 = .ok (.isub, 1) := by decide +kernel
theorem dX3_different_34 : decode cX3_different 34 = .ok (.iload_n 2, 1) := by decide +kernel
theorem dX3_different_35 : decode cX3_different 35 = .ok (.ifCond .ne 7, 3) := by decide +kernel
theorem dX3_different_38 : decode cX3_different 38 = .ok (.iconst 0, 1) := by decide +kernel
theorem dX3_different_39 : decode cX3_different 39 = .ok (.goto 21, 3) := by decide +kernel
theorem dX3_different_42 : decode cX3_different 42 = .ok (.aload_n 0, 1) := by decide +kernel
theorem dX3_different_43 : decode cX3_different 43 = .ok (.aload_n 0, 1) := by decide +kernel
theorem dX3_different_44 : decode cX3_different 44 = .ok (.getfield 13, 3) := by decide +kernel
theorem dX3_different_47 : decode cX3_different 47 = .ok (.iload_n 2, 1) := by decide +kernel
theorem dX3_different_48 : decode cX3_different 48 = .ok (.iconst 1, 1) := by decide +kernel
theorem dX3_different_49 : decode cX3_different 49 = .ok (.isub, 1) := by decide +kernel
theorem dX3_different_50 : decode cX3_different 50 = .ok (.iaload, 1) := by decide +kernel
theorem dX3_different_51 : decode cX3_different 51 = .ok (.aload_n 0, 1) := by decide +kernel
theorem dX3_different_52 : decode cX3_different 52 = .ok (.getfield 13, 3) := by decide +kernel
theorem dX3_different_55 : decode cX3_different 55 = .ok (.iload_n 2, 1) := by decide +kernel
theorem dX3_different_56 : decode cX3_different 56 = .ok (.iaload, 1) := by decide +kernel
theorem dX3_different_57 : decode cX3_different 57 = .ok (.invokevirtual 46, 3) := by decide +kernel
theorem dX3_different_60 : decode cX3_different 60 = .ok (.isub, 1) := by decide +kernel
theorem dX3_different_61 : decode cX3_different 61 = .ok (.istore_n 1, 1) := by decide +kernel
theorem dX3_different_62 : decode cX3_different 62 = .ok (.iinc 2 1, 3) := by decide +kernel
theorem dX3_different_65 : decode cX3_different 65 = .ok (.goto (-52), 3) := by decide +kernel
theorem dX3_different_68 : decode cX3_different 68 = .ok (.iload_n 1, 1) := by decide +kernel
theorem dX3_different_69 : decode cX3_different 69 = .ok (.ireturn, 1) := by decide +kernel
theorem dX3_count_0 : decode cX3_count 0 = .ok (.iload_n 1, 1) := by decide +kernel
theorem dX3_count_1 : decode cX3_count 1 = .ok (.tableswitch 77 0 5 #[39, 44, 49, 62, 67, 72], 39) := by decide +kernel
theorem dX3_count_40 : decode cX3_count 40 = .ok (.aload_n 0, 1) := by decide +kernel
theorem dX3_count_41 : decode cX3_count 41 = .ok (.getfield 32, 3) := by decide +kernel
theorem dX3_count_44 : decode cX3_count 44 = .ok (.ireturn, 1) := by decide +kernel
theorem dX3_count_45 : decode cX3_count 45 = .ok (.aload_n 0, 1) := by decide +kernel
theorem dX3_count_46 : decode cX3_count 46 = .ok (.getfield 57, 3) := by decide +kernel
theorem dX3_count_49 : decode cX3_count 49 = .ok (.ireturn, 1) := by decide +kernel
theorem dX3_count_50 : decode cX3_count 50 = .ok (.aload_n 0, 1) := by decide +kernel
theorem dX3_count_51 : decode cX3_count 51 = .ok (.getfield 35, 3) := by decide +kernel
theorem dX3_count_54 : decode cX3_count 54 = .ok (.ifCond .eq 7, 3) := by decide +kernel
theorem dX3_count_57 : decode cX3_count 57 = .ok (.iconst 1, 1) := by decide +kernel
theorem dX3_count_58 : decode cX3_count 58 = .ok (.goto 4, 3) := by decide +kernel
theorem dX3_count_61 : decode cX3_count 61 = .ok (.iconst 0, 1) := by decide +kernel
theorem dX3_count_62 : decode cX3_count 62 = .ok (.ireturn, 1) := by decide +kernel
theorem dX3_count_63 : decode cX3_count 63 = .ok (.aload_n 0, 1) := by decide +kernel
theorem dX3_count_64 : decode cX3_count 64 = .ok (.getfield 22, 3) := by decide +kernel
theorem dX3_count_67 : decode cX3_count 67 = .ok (.ireturn, 1) := by decide +kernel
theorem dX3_count_68 : decode cX3_count 68 = .ok (.aload_n 0, 1) := by decide +kernel
theorem dX3_count_69 : decode cX3_count 69 = .ok (.getfield 26, 3) := by decide +kernel
theorem dX3_count_72 : decode cX3_count 72 = .ok (.ireturn, 1) := by decide +kernel
theorem dX3_count_73 : decode cX3_count 73 = .ok (.aload_n 0, 1) := by decide +kernel
theorem dX3_count_74 : decode cX3_count 74 = .ok (.getfield 29, 3) := by decide +kernel
theorem dX3_count_77 : decode cX3_count 77 = .ok (.ireturn, 1) := by decide +kernel
theorem dX3_count_78 : decode cX3_count 78 = .ok (.iconst (-1), 1) := by decide +kernel
theorem dX3_count_79 : decode cX3_count 79 = .ok (.ireturn, 1) := by decide +kernel
theorem dX3_clear_0 : decode cX3_clear 0 = .ok (.aload_n 0, 1) := by decide +kernel
theorem dX3_clear_1 : decode cX3_clear 1 = .ok (.iconst 0, 1) := by decide +kernel
theorem dX3_clear_2 : decode cX3_clear 2 = .ok (.putfield 32, 3) := by decide +kernel
