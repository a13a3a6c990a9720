theorem dX2_feed_44 : decode cX2_feed 44 = .ok (.putfield 51, 3) := by decide +kernel
theorem dX2_feed_47 : decode cX2_feed 47 = .ok (.aload_n 0, 1) := by decide +kernel
theorem dX2_feed_48 : decode cX2_feed 48 = .ok (.invokevirtual 55, 3) := by decide +kernel
theorem dX2_feed_51 : decode cX2_feed 51 = .ok (.iconst 1, 1) := by decide +kernel
theorem dX2_feed_52 : decode cX2_feed 52 = .ok (.ireturn, 1) := by decide +kernel
set_option maxRecDepth 20000 in
theorem ggX2_feedAll_X2_packedLetter : GoodIn wsX2_feedAll wsX2_packedLetter := goodIn_r _ [4] (by decide +kernel) (by decide +kernel)
set_option maxRecDepth 20000 in
theorem gX2_feedAll_X2_packedLetter : GoodIn wsX2_feedAll (va_wsS RX2 58 yX2_packedLetter wsX2_packedLetter) := goodIn_app (goodIn_of _ (by decide +kernel)) ggX2_feedAll_X2_packedLetter
set_option maxRecDepth 20000 in
theorem ggX2_feedAll_X2_feed : GoodIn wsX2_feedAll wsX2_feed := goodIn_r _ [8, 9, 10, 11, 12, 13, 14, 3, 15, 16, 17, 18, 19, 20, 21, 22, 23, 24, 25, 26, 27, 28, 29, 30, 31, 32, 33] (by decide +kernel) (by decide +kernel)
set_option maxRecDepth 20000 in
theorem gX2_feedAll_X2_feed : GoodIn wsX2_feedAll (wsV RX2 62 RX2 yX2_feed wsX2_feed) := goodIn_app (goodIn_of _ (by decide +kernel)) ggX2_feedAll_X2_feed
theorem dX2_feedAll_0 : decode cX2_feedAll 0 = .ok (.iload 5, 2) := by decide +kernel
theorem dX2_feedAll_2 : decode cX2_feedAll 2 = .ok (.iconst 1, 1) := by decide +kernel
theorem dX2_feedAll_3 : decode cX2_feedAll 3 = .ok (.if_icmp .lt 10, 3) := by decide +kernel
theorem dX2_feedAll_6 : decode cX2_feedAll 6 = .ok (.iload 5, 2) := by decide +kernel
theorem dX2_feedAll_8 : decode cX2_feedAll 8 = .ok (.bipush 16, 2) := by decide +kernel
theorem dX2_feedAll_10 : decode cX2_feedAll 10 = .ok (.if_icmp .le 5, 3) := by decide +kernel
theorem dX2_feedAll_13 : decode cX2_feedAll 13 = .ok (.iconst 0, 1) := by decide +kernel
theorem dX2_feedAll_14 : decode cX2_feedAll 14 = .ok (.ireturn, 1) := by decide +kernel
theorem dX2_feedAll_15 : decode cX2_feedAll 15 = .ok (.iconst 0, 1) := by decide +kernel
theorem dX2_feedAll_16 : decode cX2_feedAll 16 = .ok (.istore 6, 2) := by decide +kernel
theorem dX2_feedAll_18 : decode cX2_feedAll 18 = .ok (.iload 6, 2) := by decide +kernel
theorem dX2_feedAll_20 : decode cX2_feedAll 20 = .ok (.iload 5, 2) := by decide +kernel
theorem dX2_feedAll_22 : decode cX2_feedAll 22 = .ok (.if_icmp .ge 26, 3) := by decide +kernel
theorem dX2_feedAll_25 : decode cX2_feedAll 25 = .ok (.aload_n 0, 1) := by decide +kernel
theorem dX2_feedAll_26 : decode cX2_feedAll 26 = .ok (.iload_n 1, 1) := by decide +kernel
theorem dX2_feedAll_27 : decode cX2_feedAll 27 = .ok (.iload_n 2, 1) := by decide +kernel
theorem dX2_feedAll_28 : decode cX2_feedAll 28 = .ok (.iload_n 3, 1) := by decide +kernel
theorem dX2_feedAll_29 : decode cX2_feedAll 29 = .ok (.iload 4, 2) := by decide +kernel
theorem dX2_feedAll_31 : decode cX2_feedAll 31 = .ok (.iload 6, 2) := by decide +kernel
theorem dX2_feedAll_33 : decode cX2_feedAll 33 = .ok (.invokestatic 58, 3) := by decide +kernel
theorem dX2_feedAll_36 : decode cX2_feedAll 36 = .ok (.invokevirtual 62, 3) := by decide +kernel
theorem dX2_feedAll_39 : decode cX2_feedAll 39 = .ok (.ifCond .eq 9, 3) := by decide +kernel
theorem dX2_feedAll_42 : decode cX2_feedAll 42 = .ok (.iinc 6 1, 3) := by decide +kernel
theorem dX2_feedAll_45 : decode cX2_feedAll 45 = .ok (.goto (-27), 3) := by decide +kernel
theorem dX2_feedAll_48 : decode cX2_feedAll 48 = .ok (.iload 6, 2) := by decide +kernel
theorem dX2_feedAll_50 : decode cX2_feedAll 50 = .ok (.ireturn, 1) := by decide +kernel
set_option maxRecDepth 20000 in
theorem ggX2_build_X0_sortEnds : GoodIn wsX2_build wsX0_sortEnds := goodIn_r _ [8, 9, 10, 11, 12, 13, 14, 15, 16, 17, 18, 19, 20, 21, 22, 23, 24, 25, 26, 7, 27, 28, 29, 30, 31, 32, 33, 34, 35, 36, 37, 38, 39, 40, 41, 42, 43, 44, 45, 46, 47, 48, 49, 50, 51, 52, 53, 54, 55, 56, 57, 58, 59, 60, 61, 62, 63, 64, 65, 66, 67, 68, 69, 70, 71, 72, 73, 74, 75, 76, 77, 78, 79, 80, 81, 82, 83, 84, 85, 86, 87, 88, 89, 90, 91, 92, 93, 94, 95, 96, 97, 98, 99, 100, 101, 102, 103, 104, 105, 106, 107, 108, 109, 110, 111, 112, 113, 114, 115, 116, 117, 118, 119, 120, 121, 122, 156, 157, 158, 159, 160, 161, 162, 163, 164, 165, 166, 167, 168, 169, 170, 171, 172, 173] (by decide +kernel) (by decide +kernel)
set_option maxRecDepth 20000 in
theorem gX2_build_X0_sortEnds : GoodIn wsX2_build (wsV RX2 65 RX0 yX0_sortEnds wsX0_sortEnds) := goodIn_app (goodIn_of _ (by decide +kernel)) ggX2_build_X0_sortEnds
set_option maxRecDepth 20000 in
theorem ggX2_build_X2_noteStanding : GoodIn wsX2_build wsX2_noteStanding := goodIn_r _ [126, 3, 127, 128, 129, 62, 63, 64, 144, 145, 146, 147, 148, 149, 150, 151, 152, 153, 154, 155] (by decide +kernel) (by decide +kernel)
set_option maxRecDepth 20000 in
theorem gX2_build_X2_noteStanding : GoodIn wsX2_build (wsV RX2 69 RX2 yX2_noteStanding wsX2_noteStanding) := goodIn_app (goodIn_of _ (by decide +kernel)) ggX2_build_X2_noteStanding
set_option maxRecDepth 20000 in
theorem ggX2_build_X2_measureNeighbours : GoodIn wsX2_build wsX2_measureNeighbours := goodIn_r _ [133, 3, 127, 128, 134, 135, 136, 20, 137, 138, 71, 63, 72, 139, 140, 141, 142, 143, 129, 62, 64, 144, 145, 146, 147, 148, 149, 150, 151, 152, 153, 154, 155] (by decide +kernel) (by decide +kernel)
set_option maxRecDepth 20000 in
theorem gX2_build_X2_measureNeighbours : GoodIn wsX2_build (wsV RX2 72 RX2 yX2_measureNeighbours wsX2_measureNeighbours) := goodIn_app (goodIn_of _ (by decide +kernel)) ggX2_build_X2_measureNeighbours
theorem dX2_build_0 : decode cX2_build 0 = .ok (.aload_n 0, 1) := by decide +kernel
theorem dX2_build_1 : decode cX2_build 1 = .ok (.getfield 51, 3) := by decide +kernel
theorem dX2_build_4 : decode cX2_build 4 = .ok (.ifCond .ne 27, 3) := by decide +kernel
theorem dX2_build_7 : decode cX2_build 7 = .ok (.aload_n 0, 1) := by decide +kernel
theorem dX2_build_8 : decode cX2_build 8 = .ok (.getfield 22, 3) := by decide +kernel
theorem dX2_build_11 : decode cX2_build 11 = .ok (.aload_n 0, 1) := by decide +kernel
theorem dX2_build_12 : decode cX2_build 12 = .ok (.getfield 48, 3) := by decide +kernel
theorem dX2_build_15 : decode cX2_build 15 = .ok (.invokevirtual 65, 3) := by decide +kernel
theorem dX2_build_18 : decode cX2_build 18 = .ok (.aload_n 0, 1) := by decide +kernel
theorem dX2_build_19 : decode cX2_build 19 = .ok (.invokevirtual 69, 3) := by decide +kernel
theorem dX2_build_22 : decode cX2_build 22 = .ok (.aload_n 0, 1) := by decide +kernel
theorem dX2_build_23 : decode cX2_build 23 = .ok (.invokevirtual 72, 3) := by decide +kernel
theorem dX2_build_26 : decode cX2_build 26 = .ok (.aload_n 0, 1) := by decide +kernel
theorem dX2_build_27 : decode cX2_build 27 = .ok (.iconst 1, 1) := by decide +kernel
theorem dX2_build_28 : decode cX2_build 28 = .ok (.putfield 51, 3) := by decide +kernel
theorem dX2_build_31 : decode cX2_build 31 = .ok (.aload_n 0, 1) := by decide +kernel
theorem dX2_build_32 : decode cX2_build 32 = .ok (.getfield 48, 3) := by decide +kernel
theorem dX2_build_35 : decode cX2_build 35 = .ok (.ireturn, 1) := by decide +kernel
set_option maxRecDepth 20000 in
theorem ggX2_sa_X2_isEnd : GoodIn wsX2_sa wsX2_isEnd := goodIn_r _ [6, 7, 8, 9, 10, 11, 12, 13, 14, 15, 16, 17, 18, 19, 20] (by decide +kernel) (by decide +kernel)
set_option maxRecDepth 20000 in
theorem gX2_sa_X2_isEnd : GoodIn wsX2_sa (wsV RX2 75 RX2 yX2_isEnd wsX2_isEnd) := goodIn_app (goodIn_of _ (by decide +kernel)) ggX2_sa_X2_isEnd
theorem dX2_sa_0 : decode cX2_sa 0 = .ok (.aload_n 0, 1) := by decide +kernel
theorem dX2_sa_1 : decode cX2_sa 1 = .ok (.iload_n 1, 1) := by decide +kernel
theorem dX2_sa_2 : decode cX2_sa 2 = .ok (.invokevirtual 75, 3) := by decide +kernel
theorem dX2_sa_5 : decode cX2_sa 5 = .ok (.ifCond .eq 12, 3) := by decide +kernel
theorem dX2_sa_8 : decode cX2_sa 8 = .ok (.aload_n 0, 1) := by decide +kernel
theorem dX2_sa_9 : decode cX2_sa 9 = .ok (.getfield 34, 3) := by decide +kernel
theorem dX2_sa_12 : decode cX2_sa 12 = .ok (.iload_n 1, 1) := by decide +kernel
theorem dX2_sa_13 : decode cX2_sa 13 = .ok (.iaload, 1) := by decide +kernel
theorem dX2_sa_14 : decode cX2_sa 14 = .ok (.goto 4, 3) := by decide +kernel
theorem dX2_sa_17 : decode cX2_sa 17 = .ok (.iconst (-1), 1) := by decide +kernel
theorem dX2_sa_18 : decode cX2_sa 18 = .ok (.ireturn, 1) := by decide +kernel
set_option maxRecDepth 20000 in
theorem ggX2_lcp_X2_isEnd : GoodIn wsX2_lcp wsX2_isEnd := goodIn_r _ [6, 7, 8, 9, 10, 11, 12, 13, 14, 15, 16, 17, 18, 19, 20] (by decide +kernel) (by decide +kernel)
set_option maxRecDepth 20000 in
theorem gX2_lcp_X2_isEnd : GoodIn wsX2_lcp (wsV RX2 75 RX2 yX2_isEnd wsX2_isEnd) := goodIn_app (goodIn_of _ (by decide +kernel)) ggX2_lcp_X2_isEnd
theorem dX2_lcp_0 : decode cX2_lcp 0 = .ok (.iload_n 1, 1) := by decide +kernel
theorem dX2_lcp_1 : decode cX2_lcp 1 = .ok (.iconst 1, 1) := by decide +kernel
theorem dX2_lcp_2 : decode cX2_lcp 2 = .ok (.if_icmp .lt 20, 3) := by decide +kernel
theorem dX2_lcp_5 : decode cX2_lcp 5 = .ok (.aload_n 0, 1) := by decide +kernel
theorem dX2_lcp_6 : decode cX2_lcp 6 = .ok (.iload_n 1, 1) := by decide +kernel
theorem dX2_lcp_7 : decode cX2_lcp 7 = .ok (.invokevirtual 75, 3) := by decide +kernel
theorem dX2_lcp_10 : decode cX2_lcp 10 = .ok (.ifCond .eq 12, 3) := by decide +kernel
theorem dX2_lcp_13 : decode cX2_lcp 13 = .ok (.aload_n 0, 1) := by decide +kernel
theorem dX2_lcp_14 : decode cX2_lcp 14 = .ok (.getfield 41, 3) := by decide +kernel
theorem dX2_lcp_17 : decode cX2_lcp 17 = .ok (.iload_n 1, 1) := by decide +kernel
theorem dX2_lcp_18 : decode cX2_lcp 18 = .ok (.iaload, 1) := by decide +kernel
theorem dX2_lcp_19 : decode cX2_lcp 19 = .ok (.goto 4, 3) := by decide +kernel
theorem dX2_lcp_22 : decode cX2_lcp 22 = .ok (.iconst (-1), 1) := by decide +kernel
theorem dX2_lcp_23 : decode cX2_lcp 23 = .ok (.ireturn, 1) := by decide +kernel
set_option maxRecDepth 20000 in
theorem ggX2_rank_X2_isEnd : GoodIn wsX2_rank wsX2_isEnd := goodIn_r _ [6, 7, 8, 9, 10, 11, 12, 13, 14, 15, 16, 17, 18, 19, 20] (by decide +kernel) (by decide +kernel)
set_option maxRecDepth 20000 in
theorem gX2_rank_X2_isEnd : GoodIn wsX2_rank (wsV RX2 75 RX2 yX2_isEnd wsX2_isEnd) := goodIn_app (goodIn_of _ (by decide +kernel)) ggX2_rank_X2_isEnd
theorem dX2_rank_0 : decode cX2_rank 0 = .ok (.aload_n 0, 1) := by decide +kernel
theorem dX2_rank_1 : decode cX2_rank 1 = .ok (.iload_n 1, 1) := by decide +kernel
theorem dX2_rank_2 : decode cX2_rank 2 = .ok (.invokevirtual 75, 3) := by decide +kernel
theorem dX2_rank_5 : decode cX2_rank 5 = .ok (.ifCond .eq 12, 3) := by decide +kernel
theorem dX2_rank_8 : decode cX2_rank 8 = .ok (.aload_n 0, 1) := by decide +kernel
theorem dX2_rank_9 : decode cX2_rank 9 = .ok (.getfield 38, 3) := by decide +kernel
theorem dX2_rank_12 : decode cX2_rank 12 = .ok (.iload_n 1, 1) := by decide +kernel
theorem dX2_rank_13 : decode cX2_rank 13 = .ok (.iaload, 1) := by decide +kernel
theorem dX2_rank_14 : decode cX2_rank 14 = .ok (.goto 4, 3) := by decide +kernel
theorem dX2_rank_17 : decode cX2_rank 17 = .ok (.iconst (-1), 1) := by decide +kernel
theorem dX2_rank_18 : decode cX2_rank 18 = .ok (.ireturn, 1) := by decide +kernel
set_option maxRecDepth 20000 in
theorem ggX2_common_X2_isEnd : GoodIn wsX2_common wsX2_isEnd := goodIn_r _ [5, 6, 7, 20, 21, 22, 23, 24, 25, 26, 27, 28, 29, 30, 31] (by decide +kernel) (by decide +kernel)
set_option maxRecDepth 20000 in
theorem gX2_common_X2_isEnd : GoodIn wsX2_common (wsV RX2 75 RX2 yX2_isEnd wsX2_isEnd) := goodIn_app (goodIn_of _ (by decide +kernel)) ggX2_common_X2_isEnd
set_option maxRecDepth 20000 in
theorem ggX2_common_X2_alikeFrom : GoodIn wsX2_common wsX2_alikeFrom := goodIn_r _ [11, 7, 12, 13, 14, 15, 16, 17, 18, 4, 19, 20, 21, 22, 23, 24, 25, 26, 27, 28, 29, 30, 31] (by decide +kernel) (by decide +kernel)
set_option maxRecDepth 20000 in
theorem gX2_common_X2_alikeFrom : GoodIn wsX2_common (wsV RX2 78 RX2 yX2_alikeFrom wsX2_alikeFrom) := goodIn_app (goodIn_of _ (by decide +kernel)) ggX2_common_X2_alikeFrom
theorem dX2_common_0 : decode cX2_common 0 = .ok (.aload_n 0, 1) := by decide +kernel
theorem dX2_common_1 : decode cX2_common 1 = .ok (.iload_n 1, 1) := by decide +kernel
theorem dX2_common_2 : decode cX2_common 2 = .ok (.invokevirtual 75, 3) := by decide +kernel
theorem dX2_common_5 : decode cX2_common 5 = .ok (.ifCond .eq 21, 3) := by decide +kernel
theorem dX2_common_8 : decode cX2_common 8 = .ok (.aload_n 0, 1) := by decide +kernel
theorem dX2_common_9 : decode cX2_common 9 = .ok (.iload_n 2, 1) := by decide +kernel
theorem dX2_common_10 : decode cX2_common 10 = .ok (.invokevirtual 75, 3) := by decide +kernel
theorem dX2_common_13 : decode cX2_common 13 = .ok (.ifCond .eq 13, 3) := by decide +kernel
theorem dX2_common_16 : decode cX2_common 16 = .ok (.aload_n 0, 1) := by decide +kernel
theorem dX2_common_17 : decode cX2_common 17 = .ok (.iload_n 1, 1) := by decide +kernel
theorem dX2_common_18 : decode cX2_common 18 = .ok (.iload_n 2, 1) := by decide +kernel
theorem dX2_common_19 : decode cX2_common 19 = .ok (.iconst 0, 1) := by decide +kernel
theorem dX2_common_20 : decode cX2_common 20 = .ok (.invokevirtual 78, 3) := by decide +kernel
theorem dX2_common_23 : decode cX2_common 23 = .ok (.goto 4, 3) := by decide +kernel
theorem dX2_common_26 : decode cX2_common 26 = .ok (.iconst (-1), 1) := by decide +kernel
theorem dX2_common_27 : decode cX2_common 27 = .ok (.ireturn, 1) := by decide +kernel
set_option maxRecDepth 20000 in
theorem ggX2_patFeed_X2_isLetter : GoodIn wsX2_patFeed wsX2_isLetter := goodIn_r _ [7, 8, 14, 15, 16, 17, 18, 19, 20, 21, 22, 23, 24, 25] (by decide +kernel) (by decide +kernel)
set_option maxRecDepth 20000 in
theorem gX2_patFeed_X2_isLetter : GoodIn wsX2_patFeed (wsV RX2 44 RX2 yX2_isLetter wsX2_isLetter) := goodIn_app (goodIn_of _ (by decide +kernel)) ggX2_patFeed_X2_isLetter
set_option maxRecDepth 20000 in
theorem ggX2_patFeed_X2_forgetHits : GoodIn wsX2_patFeed wsX2_forgetHits := goodIn_r _ [12, 13, 14, 15, 16, 17, 18, 19, 20, 21, 22, 23, 24, 25] (by decide +kernel) (by decide +kernel)
set_option maxRecDepth 20000 in
theorem gX2_patFeed_X2_forgetHits : GoodIn wsX2_patFeed (wsV RX2 55 RX2 yX2_forgetHits wsX2_forgetHits) := goodIn_app (goodIn_of _ (by decide +kernel)) ggX2_patFeed_X2_forgetHits
theorem dX2_patFeed_0 : decode cX2_patFeed 0 = .ok (.aload_n 0, 1) := by decide +kernel
theorem dX2_patFeed_1 : decode cX2_patFeed 1 = .ok (.iload_n 1, 1) := by decide +kernel
theorem dX2_patFeed_2 : decode cX2_patFeed 2 = .ok (.invokevirtual 44, 3) := by decide +kernel
theorem dX2_patFeed_5 : decode cX2_patFeed 5 = .ok (.ifCond .eq 15, 3) := by decide +kernel
theorem dX2_patFeed_8 : decode cX2_patFeed 8 = .ok (.aload_n 0, 1) := by decide +kernel
theorem dX2_patFeed_9 : decode cX2_patFeed 9 = .ok (.getfield 82, 3) := by decide +kernel
theorem dX2_patFeed_12 : decode cX2_patFeed 12 = .ok (.aload_n 0, 1) := by decide +kernel
theorem dX2_patFeed_13 : decode cX2_patFeed 13 = .ok (.getfield 35, 3) := by decide +kernel
theorem dX2_patFeed_16 : decode cX2_patFeed 16 = .ok (.arraylength, 1) := by decide +kernel
theorem dX2_patFeed_17 : decode cX2_patFeed 17 = .ok (.if_icmp .lt 5, 3) := by decide +kernel
theorem dX2_patFeed_20 : decode cX2_patFeed 20 = .ok (.iconst 0, 1) := by decide +kernel
theorem dX2_patFeed_21 : decode cX2_patFeed 21 = .ok (.ireturn, 1) := by decide +kernel
theorem dX2_patFeed_22 : decode cX2_patFeed 22 = .ok (.aload_n 0, 1) := by decide +kernel
theorem dX2_patFeed_23 : decode cX2_patFeed 23 = .ok (.getfield 35, 3) := by decide +kernel
theorem dX2_patFeed_26 : decode cX2_patFeed 26 = .ok (.aload_n 0, 1) := by decide +kernel
theorem dX2_patFeed_27 : decode cX2_patFeed 27 = .ok (.getfield 82, 3) := by decide +kernel
theorem dX2_patFeed_30 : decode cX2_patFeed 30 = .ok (.iload_n 1, 1) := by decide +kernel
theorem dX2_patFeed_31 : decode cX2_patFeed 31 = .ok (.iastore, 1) := by decide +kernel
theorem dX2_patFeed_32 : decode cX2_patFeed 32 = .ok (.aload_n 0, 1) := by decide +kernel
theorem dX2_patFeed_33 : decode cX2_patFeed 33 = .ok (.dup, 1) := by decide +kernel
theorem dX2_patFeed_34 : decode cX2_patFeed 34 = .ok (.getfield 82, 3) := by decide +kernel
theorem dX2_patFeed_37 : decode cX2_patFeed 37 = .ok (.iconst 1, 1) := by decide +kernel
theorem dX2_patFeed_38 : decode cX2_patFeed 38 = .ok (.iadd, 1) := by decide +kernel
theorem dX2_patFeed_39 : decode cX2_patFeed 39 = .ok (.putfield 82, 3) := by decide +kernel
theorem dX2_patFeed_42 : decode cX2_patFeed 42 = .ok (.aload_n 0, 1) := by decide +kernel
theorem dX2_patFeed_43 : decode cX2_patFeed 43 = .ok (.invokevirtual 55, 3) := by decide +kernel
theorem dX2_patFeed_46 : decode cX2_patFeed 46 = .ok (.iconst 1, 1) := by decide +kernel
theorem dX2_patFeed_47 : decode cX2_patFeed 47 = .ok (.ireturn, 1) := by decide +kernel
set_option maxRecDepth 20000 in
theorem ggX2_patClear_X2_forgetHits : GoodIn wsX2_patClear wsX2_forgetHits := goodIn_r _ [6, 7, 8, 9, 10, 11, 12, 13, 14, 15, 16, 17, 18, 19] (by decide +kernel) (by decide +kernel)
set_option maxRecDepth 20000 in
theorem gX2_patClear_X2_forgetHits : GoodIn wsX2_patClear (wsV RX2 55 RX2 yX2_forgetHits wsX2_forgetHits) := goodIn_app (goodIn_of _ (by decide +kernel)) ggX2_patClear_X2_forgetHits
theorem dX2_patClear_0 : decode cX2_patClear 0 = .ok (.aload_n 0, 1) := by decide +kernel
theorem dX2_patClear_1 : decode cX2_patClear 1 = .ok (.iconst 0, 1) := by decide +kernel
theorem dX2_patClear_2 : decode cX2_patClear 2 = .ok (.putfield 82, 3) := by decide +kernel
theorem dX2_patClear_5 : decode cX2_patClear 5 = .ok (.aload_n 0, 1) := by decide +kernel
theorem dX2_patClear_6 : decode cX2_patClear 6 = .ok (.invokevirtual 55, 3) := by decide +kernel
theorem dX2_patClear_9 : decode cX2_patClear 9 = .ok (.return_, 1) := by decide +kernel
set_option maxRecDepth 20000 in
theorem ggX2_search_X2_firstEndFrom : GoodIn wsX2_search wsX2_firstEndFrom := goodIn_r _ [8, 9, 10, 11, 12, 7, 13, 14, 15, 16, 17, 18, 19, 20, 21, 22, 23, 24, 25, 26, 27, 28, 29, 30, 31, 32] (by decide +kernel) (by decide +kernel)
set_option maxRecDepth 20000 in
theorem gX2_search_X2_firstEndFrom : GoodIn wsX2_search (wsV RX2 85 RX2 yX2_firstEndFrom wsX2_firstEndFrom) := goodIn_app (goodIn_of _ (by decide +kernel)) ggX2_search_X2_firstEndFrom
theorem dX2_search_0 : decode cX2_search 0 = .ok (.aload_n 0, 1) := by decide +kernel
theorem dX2_search_1 : decode cX2_search 1 = .ok (.getfield 51, 3) := by decide +kernel
theorem dX2_search_4 : decode cX2_search 4 = .ok (.ifCond .ne 5, 3) := by decide +kernel
theorem dX2_search_7 : decode cX2_search 7 = .ok (.iconst (-1), 1) := by decide +kernel
theorem dX2_search_8 : decode cX2_search 8 = .ok (.ireturn, 1) := by decide +kernel
theorem dX2_search_9 : decode cX2_search 9 = .ok (.aload_n 0, 1) := by decide +kernel
theorem dX2_search_10 : decode cX2_search 10 = .ok (.aload_n 0, 1) := by decide +kernel
theorem dX2_search_11 : decode cX2_search 11 = .ok (.iconst 0, 1) := by decide +kernel
theorem dX2_search_12 : decode cX2_search 12 = .ok (.invokevirtual 85, 3) := by decide +kernel
theorem dX2_search_15 : decode cX2_search 15 = .ok (.putfield 89, 3) := by decide +kernel
theorem dX2_search_18 : decode cX2_search 18 = .ok (.aload_n 0, 1) := by decide +kernel
theorem dX2_search_19 : decode cX2_search 19 = .ok (.aload_n 0, 1) := by decide +kernel
theorem dX2_search_20 : decode cX2_search 20 = .ok (.iconst 1, 1) := by decide +kernel
theorem dX2_search_21 : decode cX2_search 21 = .ok (.invokevirtual 85, 3) := by decide +kernel
theorem dX2_search_24 : decode cX2_search 24 = .ok (.aload_n 0, 1) := by decide +kernel
theorem dX2_search_25 : decode cX2_search 25 = .ok (.getfield 89, 3) := by decide +kernel
theorem dX2_search_28 : decode cX2_search 28 = .ok (.isub, 1) := by decide +kernel
theorem dX2_search_29 : decode cX2_search 29 = .ok (.putfield 92, 3) := by decide +kernel
theorem dX2_search_32 : decode cX2_search 32 = .ok (.aload_n 0, 1) := by decide +kernel
theorem dX2_search_33 : decode cX2_search 33 = .ok (.getfield 92, 3) := by decide +kernel
theorem dX2_search_36 : decode cX2_search 36 = .ok (.ireturn, 1) := by decide +kernel
set_option maxRecDepth 20000 in
theorem ggX2_hit_X2_at : GoodIn wsX2_hit wsX2_at := goodIn_r _ [7] (by decide +kernel) (by decide +kernel)
set_option maxRecDepth 20000 in
theorem gX2_hit_X2_at : GoodIn wsX2_hit (va_wsS RX2 95 yX2_at wsX2_at) := goodIn_app (goodIn_of _ (by decide +kernel)) ggX2_hit_X2_at
theorem dX2_hit_0 : decode cX2_hit 0 = .ok (.iload_n 1, 1) := by decide +kernel
theorem dX2_hit_1 : decode cX2_hit 1 = .ok (.ifCond .lt 27, 3) := by decide +kernel
theorem dX2_hit_4 : decode cX2_hit 4 = .ok (.iload_n 1, 1) := by decide +kernel
theorem dX2_hit_5 : decode cX2_hit 5 = .ok (.aload_n 0, 1) := by decide +kernel
theorem dX2_hit_6 : decode cX2_hit 6 = .ok (.getfield 92, 3) := by decide +kernel
theorem dX2_hit_9 : decode cX2_hit 9 = .ok (.if_icmp .ge 19, 3) := by decide +kernel
theorem dX2_hit_12 : decode cX2_hit 12 = .ok (.aload_n 0, 1) := by decide +kernel
theorem dX2_hit_13 : decode cX2_hit 13 = .ok (.getfield 34, 3) := by decide +kernel
theorem dX2_hit_16 : decode cX2_hit 16 = .ok (.aload_n 0, 1) := by decide +kernel
theorem dX2_hit_17 : decode cX2_hit 17 = .ok (.getfield 89, 3) := by decide +kernel
theorem dX2_hit_20 : decode cX2_hit 20 = .ok (.iload_n 1, 1) := by decide +kernel
theorem dX2_hit_21 : decode cX2_hit 21 = .ok (.iadd, 1) := by decide +kernel
theorem dX2_hit_22 : decode cX2_hit 22 = .ok (.invokestatic 95, 3) := by decide +kernel
theorem dX2_hit_25 : decode cX2_hit 25 = .ok (.goto 4, 3) := by decide +kernel
theorem dX2_hit_28 : decode cX2_hit 28 = .ok (.iconst (-1), 1) := by decide +kernel
theorem dX2_hit_29 : decode cX2_hit 29 = .ok (.ireturn, 1) := by decide +kernel
set_option maxRecDepth 20000 in
theorem ggX2_repeated_X2_longestAlike : GoodIn wsX2_repeated wsX2_longestAlike := goodIn_r _ [6, 7, 8, 9, 10, 11, 12, 13, 14, 15, 16, 17, 18, 19, 20, 21, 22, 23, 24] (by decide +kernel) (by decide +kernel)
set_option maxRecDepth 20000 in
theorem gX2_repeated_X2_longestAlike : GoodIn wsX2_repeated (wsV RX2 99 RX2 yX2_longestAlike wsX2_longestAlike) := goodIn_app (goodIn_of _ (by decide +kernel)) ggX2_repeated_X2_longestAlike
theorem dX2_repeated_0 : decode cX2_repeated 0 = .ok (.aload_n 0, 1) := by decide +kernel
theorem dX2_repeated_1 : decode cX2_repeated 1 = .ok (.getfield 51, 3) := by decide +kernel
theorem dX2_repeated_4 : decode cX2_repeated 4 = .ok (.ifCond .eq 10, 3) := by decide +kernel
theorem dX2_repeated_7 : decode cX2_repeated 7 = .ok (.aload_n 0, 1) := by decide +kernel
theorem dX2_repeated_8 : decode cX2_repeated 8 = .ok (.invokevirtual 99, 3) := by decide +kernel
theorem dX2_repeated_11 : decode cX2_repeated 11 = .ok (.goto 4, 3) := by decide +kernel
theorem dX2_repeated_14 : decode cX2_repeated 14 = .ok (.iconst (-1), 1) := by decide +kernel
theorem dX2_repeated_15 : decode cX2_repeated 15 = .ok (.ireturn, 1) := by decide +kernel
set_option maxRecDepth 20000 in
theorem ggX2_repeatedAt_X2_longestAlike : GoodIn wsX2_repeatedAt wsX2_longestAlike := goodIn_r _ [6, 7, 8, 9, 10, 11, 12, 24, 25, 26, 27, 28, 29, 30, 31, 32, 33, 34, 35] (by decide +kernel) (by decide +kernel)
set_option maxRecDepth 20000 in
theorem gX2_repeatedAt_X2_longestAlike : GoodIn wsX2_repeatedAt (wsV RX2 99 RX2 yX2_longestAlike wsX2_longestAlike) := goodIn_app (goodIn_of _ (by decide +kernel)) ggX2_repeatedAt_X2_longestAlike
set_option maxRecDepth 20000 in
theorem ggX2_repeatedAt_X2_leastPlaceOf : GoodIn wsX2_repeatedAt wsX2_leastPlaceOf := goodIn_r _ [16, 7, 8, 17, 18, 19, 11, 20, 21, 22, 5, 23, 24, 25, 26, 27, 28, 29, 30, 31, 32, 33, 34, 35] (by decide +kernel) (by decide +kernel)
set_option maxRecDepth 20000 in
theorem gX2_repeatedAt_X2_leastPlaceOf : GoodIn wsX2_repeatedAt (wsV RX2 103 RX2 yX2_leastPlaceOf wsX2_leastPlaceOf) := goodIn_app (goodIn_of _ (by decide +kernel)) ggX2_repeatedAt_X2_leastPlaceOf
theorem dX2_repeatedAt_0 : decode cX2_repeatedAt 0 = .ok (.aload_n 0, 1) := by decide +kernel
theorem dX2_repeatedAt_1 : decode cX2_repeatedAt 1 = .ok (.getfield 51, 3) := by decide +kernel
theorem dX2_repeatedAt_4 : decode cX2_repeatedAt 4 = .ok (.ifCond .eq 10, 3) := by decide +kernel
theorem dX2_repeatedAt_7 : decode cX2_repeatedAt 7 = .ok (.aload_n 0, 1) := by decide +kernel
theorem dX2_repeatedAt_8 : decode cX2_repeatedAt 8 = .ok (.invokevirtual 99, 3) := by decide +kernel
theorem dX2_repeatedAt_11 : decode cX2_repeatedAt 11 = .ok (.goto 4, 3) := by decide +kernel
theorem dX2_repeatedAt_14 : decode cX2_repeatedAt 14 = .ok (.iconst 0, 1) := by decide +kernel
theorem dX2_repeatedAt_15 : decode cX2_repeatedAt 15 = .ok (.istore_n 1, 1) := by decide +kernel
theorem dX2_repeatedAt_16 : decode cX2_repeatedAt 16 = .ok (.iload_n 1, 1) := by decide +kernel
theorem dX2_repeatedAt_17 : decode cX2_repeatedAt 17 = .ok (.ifCond .le 11, 3) := by decide +kernel
theorem dX2_repeatedAt_20 : decode cX2_repeatedAt 20 = .ok (.aload_n 0, 1) := by decide +kernel
theorem dX2_repeatedAt_21 : decode cX2_repeatedAt 21 = .ok (.iload_n 1, 1) := by decide +kernel
theorem dX2_repeatedAt_22 : decode cX2_repeatedAt 22 = .ok (.invokevirtual 103, 3) := by decide +kernel
theorem dX2_repeatedAt_25 : decode cX2_repeatedAt 25 = .ok (.goto 4, 3) := by decide +kernel
theorem dX2_repeatedAt_28 : decode cX2_repeatedAt 28 = .ok (.iconst (-1), 1) := by decide +kernel
theorem dX2_repeatedAt_29 : decode cX2_repeatedAt 29 = .ok (.ireturn, 1) := by decide +kernel
theorem dX2_different_0 : decode cX2_different 0 = .ok (.aload_n 0, 1) := by decide +kernel
theorem dX2_different_1 : decode cX2_different 1 = .ok (.getfield 51, 3) := by decide +kernel
theorem dX2_different_4 : decode cX2_different 4 = .ok (.ifCond .ne 5, 3) := by decide +kernel
theorem dX2_different_7 : decode cX2_different 7 = .ok (.iconst (-1), 1) := by decide +kernel
theorem dX2_different_8 : decode cX2_different 8 = .ok (.ireturn, 1) := by decide +kernel
theorem dX2_different_9 : decode cX2_different 9 = .ok (.iconst 0, 1) := by decide +kernel
theorem dX2_different_10 : decode cX2_different 10 = .ok (.istore_n 1, 1) := by decide +kernel
theorem dX2_different_11 : decode cX2_different 11 = .ok (.iconst 0, 1) := by decide +kernel
theorem dX2_different_12 : decode cX2_different 12 = .ok (.istore_n 2, 1) := by decide +kernel
theorem dX2_different_13 : decode cX2_different 13 = .ok (.iload_n 2, 1) := by decide +kernel
theorem dX2_different_14 : decode cX2_different 14 = .ok (.aload_n 0, 1) := by decide +kernel
theorem dX2_different_15 : decode cX2_different 15 = .ok (.getfield 48, 3) := by decide +kernel
theorem dX2_different_18 : decode cX2_different 18 = .ok (.if_icmp .ge 30, 3) := by decide +kernel
theorem dX2_different_21 : decode cX2_different 21 = .ok (.iload_n 1, 1) := by decide +kernel
theorem dX2_different_22 : decode cX2_different 22 = .ok (.aload_n 0, 1) := by decide +kernel
theorem dX2_different_23 : decode cX2_different 23 = .ok (.getfield 48, 3) := by decide +kernel
theorem dX2_different_26 : decode cX2_different 26 = .ok (.aload_n 0, 1) := by decide +kernel
theorem dX2_different_27 : decode cX2_different 27 = .ok (.getfield 34, 3) := by decide +kernel
theorem dX2_different_30 : decode cX2_different 30 = .ok (.iload_n 2, 1) := by decide +kernel
theorem dX2_different_31 : decode cX2_different 31 = .ok (.iaload, 1) := by decide +kernel
theorem dX2_different_32 : decode cX2_different 32 = .ok (.isub, 1) := by decide +kernel
theorem dX2_different_33 : decode cX2_different 33 = .ok (.aload_n 0, 1) := by decide +kernel
theorem dX2_different_34 : decode cX2_different 34 = .ok (.getfield 41, 3) := by decide +kernel
theorem dX2_different_37 : decode cX2_different 37 = .ok (.iload_n 2, 1) := by decide +kernel
theorem dX2_different_38 : decode cX2_different 38 = .ok (.iaload, 1) := by decide +kernel
theorem dX2_different_39 : decode cX2_different 39 = .ok (.isub, 1) := by decide +kernel
theorem dX2_different_40 : decode cX2_different 40 = .ok (.iadd, 1) := by decide +kernel
theorem dX2_different_41 : decode cX2_different 41 = .ok (.istore_n 1, 1) := by decide +kernel
theorem dX2_different_42 : decode cX2_different 42 = .ok (.iinc 2 1, 3) := by decide +kernel
theorem dX2_different_45 : decode cX2_different 45 = .ok (.goto (-32), 3) := by decide +kernel
theorem dX2_different_48 : decode cX2_different 48 = .ok (.iload_n 1, 1) := by decide +kernel
theorem dX2_different_49 : decode cX2_different 49 = .ok (.ireturn, 1) := by decide +kernel
theorem dX2_count_0 : decode cX2_count 0 = .ok (.iload_n 1, 1) := by decide +kernel
theorem dX2_count_1 : decode cX2_count 1 = .ok (.tableswitch 79 0 5 #[39, 44, 49, 62, 68, 73], 39) := by decide +kernel
theorem dX2_count_40 : decode cX2_count 40 = .ok (.aload_n 0, 1) := by decide +kernel
theorem dX2_count_41 : decode cX2_count 41 = .ok (.getfield 48, 3) := by decide +kernel
theorem dX2_count_44 : decode cX2_count 44 = .ok (.ireturn, 1) := by decide +kernel
theorem dX2_count_45 : decode cX2_count 45 = .ok (.aload_n 0, 1) := by decide +kernel
theorem dX2_count_46 : decode cX2_count 46 = .ok (.getfield 82, 3) := by decide +kernel
theorem dX2_count_49 : decode cX2_count 49 = .ok (.ireturn, 1) := by decide +kernel
theorem dX2_count_50 : decode cX2_count 50 = .ok (.aload_n 0, 1) := by decide +kernel
theorem dX2_count_51 : decode cX2_count 51 = .ok (.getfield 51, 3) := by decide +kernel
theorem dX2_count_54 : decode cX2_count 54 = .ok (.ifCond .eq 7, 3) := by decide +kernel
theorem dX2_count_57 : decode cX2_count 57 = .ok (.iconst 1, 1) := by decide +kernel
theorem dX2_count_58 : decode cX2_count 58 = .ok (.goto 4, 3) := by decide +kernel
theorem dX2_count_61 : decode cX2_count 61 = .ok (.iconst 0, 1) := by decide +kernel
theorem dX2_count_62 : decode cX2_count 62 = .ok (.ireturn, 1) := by decide +kernel
theorem dX2_count_63 : decode cX2_count 63 = .ok (.aload_n 0, 1) := by decide +kernel
theorem dX2_count_64 : decode cX2_count 64 = .ok (.getfield 30, 3) := by decide +kernel
theorem dX2_count_67 : decode cX2_count 67 = .ok (.arraylength, 1) := by decide +kernel
theorem dX2_count_68 : decode cX2_count 68 = .ok (.ireturn, 1) := by decide +kernel
theorem dX2_count_69 : decode cX2_count 69 = .ok (.aload_n 0, 1) := by decide +kernel
theorem dX2_count_70 : decode cX2_count 70 = .ok (.getfield 13, 3) := by decide +kernel
theorem dX2_count_73 : decode cX2_count 73 = .ok (.ireturn, 1) := by decide +kernel
theorem dX2_count_74 : decode cX2_count 74 = .ok (.aload_n 0, 1) := by decide +kernel
theorem dX2_count_75 : decode cX2_count 75 = .ok (.getfield 35, 3) := by decide +kernel
theorem dX2_count_78 : decode cX2_count 78 = .ok (.arraylength, 1) := by decide +kernel
theorem dX2_count_79 : decode cX2_count 79 = .ok (.ireturn, 1) := by decide +kernel
theorem dX2_count_80 : decode cX2_count 80 = .ok (.iconst (-1), 1) := by decide +kernel
theorem dX2_count_81 : decode cX2_count 81 = .ok (.ireturn, 1) := by decide +kernel
set_option maxRecDepth 20000 in
theorem ggX2_clear_X2_patClear : GoodIn wsX2_clear wsX2_patClear := goodIn_r _ [7, 8, 9, 10, 11, 6, 12, 13, 14, 15, 16, 17, 18, 19, 20, 21, 22, 23, 24, 25] (by decide +kernel) (by decide +kernel)
set_option maxRecDepth 20000 in
theorem gX2_clear_X2_patClear : GoodIn wsX2_clear (wsV RX2 106 RX2 yX2_patClear wsX2_patClear) := goodIn_app (goodIn_of _ (by decide +kernel)) ggX2_clear_X2_patClear
theorem dX2_clear_0 : decode cX2_clear 0 = .ok (.aload_n 0, 1) := by decide +kernel
theorem dX2_clear_1 : decode cX2_clear 1 = .ok (.iconst 0, 1) := by decide +kernel
theorem dX2_clear_2 : decode cX2_clear 2 = .ok (.putfield 48, 3) := by decide +kernel
theorem dX2_clear_5 : decode cX2_clear 5 = .ok (.aload_n 0, 1) := by decide +kernel
theorem dX2_clear_6 : decode cX2_clear 6 = .ok (.iconst 0, 1) := by decide +kernel
theorem dX2_clear_7 : decode cX2_clear 7 = .ok (.putfield 51, 3) := by decide +kernel
theorem dX2_clear_10 : decode cX2_clear 10 = .ok (.aload_n 0, 1) := by decide +kernel
theorem dX2_clear_11 : decode cX2_clear 11 = .ok (.invokevirtual 106, 3) := by decide +kernel
theorem dX2_clear_14 : decode cX2_clear 14 = .ok (.return_, 1) := by decide +kernel
theorem dX2_nearest_0 : decode cX2_nearest 0 = .ok (.iconst 1, 1) := by decide +kernel
theorem dX2_nearest_1 : decode cX2_nearest 1 = .ok (.iload_n 0, 1) := by decide +kernel
theorem dX2_nearest_2 : decode cX2_nearest 2 = .ok (.iload_n 1, 1) := by decide +kernel
theorem dX2_nearest_3 : decode cX2_nearest 3 = .ok (.invokestatic 109, 3) := by decide +kernel
theorem dX2_nearest_6 : decode cX2_nearest 6 = .ok (.invokestatic 114, 3) := by decide +kernel
theorem dX2_nearest_9 : decode cX2_nearest 9 = .ok (.ireturn, 1) := by decide +kernel
theorem dX2_at_0 : decode cX2_at 0 = .ok (.iload_n 1, 1) := by decide +kernel
theorem dX2_at_1 : decode cX2_at 1 = .ok (.ifCond .lt 15, 3) := by decide +kernel
theorem dX2_at_4 : decode cX2_at 4 = .ok (.iload_n 1, 1) := by decide +kernel
theorem dX2_at_5 : decode cX2_at 5 = .ok (.aload_n 0, 1) := by decide +kernel
theorem dX2_at_6 : decode cX2_at 6 = .ok (.arraylength, 1) := by decide +kernel
theorem dX2_at_7 : decode cX2_at 7 = .ok (.if_icmp .ge 9, 3) := by decide +kernel
theorem dX2_at_10 : decode cX2_at 10 = .ok (.aload_n 0, 1) := by decide +kernel
theorem dX2_at_11 : decode cX2_at 11 = .ok (.iload_n 1, 1) := by decide +kernel
theorem dX2_at_12 : decode cX2_at 12 = .ok (.iaload, 1) := by decide +kernel
theorem dX2_at_13 : decode cX2_at 13 = .ok (.goto 4, 3) := by decide +kernel
theorem dX2_at_16 : decode cX2_at 16 = .ok (.iconst (-1), 1) := by decide +kernel
theorem dX2_at_17 : decode cX2_at 17 = .ok (.ireturn, 1) := by decide +kernel
theorem dX2_put_0 : decode cX2_put 0 = .ok (.iload_n 1, 1) := by decide +kernel
theorem dX2_put_1 : decode cX2_put 1 = .ok (.ifCond .lt 13, 3) := by decide +kernel
theorem dX2_put_4 : decode cX2_put 4 = .ok (.iload_n 1, 1) := by decide +kernel
theorem dX2_put_5 : decode cX2_put 5 = .ok (.aload_n 0, 1) := by decide +kernel
theorem dX2_put_6 : decode cX2_put 6 = .ok (.arraylength, 1) := by decide +kernel
theorem dX2_put_7 : decode cX2_put 7 = .ok (.if_icmp .ge 7, 3) := by decide +kernel
theorem dX2_put_10 : decode cX2_put 10 = .ok (.aload_n 0, 1) := by decide +kernel
theorem dX2_put_11 : decode cX2_put 11 = .ok (.iload_n 1, 1) := by decide +kernel
theorem dX2_put_12 : decode cX2_put 12 = .ok (.iload_n 2, 1) := by decide +kernel
theorem dX2_put_13 : decode cX2_put 13 = .ok (.iastore, 1) := by decide +kernel
theorem dX2_put_14 : decode cX2_put 14 = .ok (.return_, 1) := by decide +kernel
theorem dX2_packedLetter_0 : decode cX2_packedLetter 0 = .ok (.iload 4, 2) := by decide +kernel
theorem dX2_packedLetter_2 : decode cX2_packedLetter 2 = .ok (.iconst 4, 1) := by decide +kernel
theorem dX2_packedLetter_3 : decode cX2_packedLetter 3 = .ok (.if_icmp .ge 7, 3) := by decide +kernel
theorem dX2_packedLetter_6 : decode cX2_packedLetter 6 = .ok (.iload_n 0, 1) := by decide +kernel
theorem dX2_packedLetter_7 : decode cX2_packedLetter 7 = .ok (.goto 26, 3) := by decide +kernel
theorem dX2_packedLetter_10 : decode cX2_packedLetter 10 = .ok (.iload 4, 2) := by decide +kernel
theorem dX2_packedLetter_12 : decode cX2_packedLetter 12 = .ok (.bipush 8, 2) := by decide +kernel
theorem dX2_packedLetter_14 : decode cX2_packedLetter 14 = .ok (.if_icmp .ge 7, 3) := by decide +kernel
theorem dX2_packedLetter_17 : decode cX2_packedLetter 17 = .ok (.iload_n 1, 1) := by decide +kernel
theorem dX2_packedLetter_18 : decode cX2_packedLetter 18 = .ok (.goto 15, 3) := by decide +kernel
theorem dX2_packedLetter_21 : decode cX2_packedLetter 21 = .ok (.iload 4, 2) := by decide +kernel
theorem dX2_packedLetter_23 : decode cX2_packedLetter 23 = .ok (.bipush 12, 2) := by decide +kernel
theorem dX2_packedLetter_25 : decode cX2_packedLetter 25 = .ok (.if_icmp .ge 7, 3) := by decide +kernel
theorem dX2_packedLetter_28 : decode cX2_packedLetter 28 = .ok (.iload_n 2, 1) := by decide +kernel
theorem dX2_packedLetter_29 : decode cX2_packedLetter 29 = .ok (.goto 4, 3) := by decide +kernel
theorem dX2_packedLetter_32 : decode cX2_packedLetter 32 = .ok (.iload_n 3, 1) := by decide +kernel
theorem dX2_packedLetter_33 : decode cX2_packedLetter 33 = .ok (.istore 5, 2) := by decide +kernel
theorem dX2_packedLetter_35 : decode cX2_packedLetter 35 = .ok (.iload 5, 2) := by decide +kernel
theorem dX2_packedLetter_37 : decode cX2_packedLetter 37 = .ok (.bipush 24, 2) := by decide +kernel
theorem dX2_packedLetter_39 : decode cX2_packedLetter 39 = .ok (.bipush 8, 2) := by decide +kernel
theorem dX2_packedLetter_41 : decode cX2_packedLetter 41 = .ok (.iload 4, 2) := by decide +kernel
theorem dX2_packedLetter_43 : decode cX2_packedLetter 43 = .ok (.iconst 3, 1) := by decide +kernel
theorem dX2_packedLetter_44 : decode cX2_packedLetter 44 = .ok (.iand, 1) := by decide +kernel
theorem dX2_packedLetter_45 : decode cX2_packedLetter 45 = .ok (.imul, 1) := by decide +kernel
theorem dX2_packedLetter_46 : decode cX2_packedLetter 46 = .ok (.isub, 1) := by decide +kernel
theorem dX2_packedLetter_47 : decode cX2_packedLetter 47 = .ok (.iushr, 1) := by decide +kernel
theorem dX2_packedLetter_48 : decode cX2_packedLetter 48 = .ok (.sipush 255, 3) := by decide +kernel
theorem dX2_packedLetter_51 : decode cX2_packedLetter 51 = .ok (.iand, 1) := by decide +kernel
theorem dX2_packedLetter_52 : decode cX2_packedLetter 52 = .ok (.ireturn, 1) := by decide +kernel
theorem dX2_isLetter_0 : decode cX2_isLetter 0 = .ok (.iload_n 1, 1) := by decide +kernel
theorem dX2_isLetter_1 : decode cX2_isLetter 1 = .ok (.ifCond .lt 15, 3) := by decide +kernel
theorem dX2_isLetter_4 : decode cX2_isLetter 4 = .ok (.iload_n 1, 1) := by decide +kernel
theorem dX2_isLetter_5 : decode cX2_isLetter 5 = .ok (.aload_n 0, 1) := by decide +kernel
theorem dX2_isLetter_6 : decode cX2_isLetter 6 = .ok (.getfield 13, 3) := by decide +kernel
theorem dX2_isLetter_9 : decode cX2_isLetter 9 = .ok (.if_icmp .ge 7, 3) := by decide +kernel
theorem dX2_isLetter_12 : decode cX2_isLetter 12 = .ok (.iconst 1, 1) := by decide +kernel
theorem dX2_isLetter_13 : decode cX2_isLetter 13 = .ok (.goto 4, 3) := by decide +kernel
theorem dX2_isLetter_16 : decode cX2_isLetter 16 = .ok (.iconst 0, 1) := by decide +kernel
theorem dX2_isLetter_17 : decode cX2_isLetter 17 = .ok (.ireturn, 1) := by decide +kernel
theorem dX2_isEnd_0 : decode cX2_isEnd 0 = .ok (.aload_n 0, 1) := by decide +kernel
theorem dX2_isEnd_1 : decode cX2_isEnd 1 = .ok (.getfield 51, 3) := by decide +kernel
theorem dX2_isEnd_4 : decode cX2_isEnd 4 = .ok (.ifCond .eq 19, 3) := by decide +kernel
theorem dX2_isEnd_7 : decode cX2_isEnd 7 = .ok (.iload_n 1, 1) := by decide +kernel
theorem dX2_isEnd_8 : decode cX2_isEnd 8 = .ok (.ifCond .lt 15, 3) := by decide +kernel
theorem dX2_isEnd_11 : decode cX2_isEnd 11 = .ok (.iload_n 1, 1) := by decide +kernel
theorem dX2_isEnd_12 : decode cX2_isEnd 12 = .ok (.aload_n 0, 1) := by decide +kernel
theorem dX2_isEnd_13 : decode cX2_isEnd 13 = .ok (.getfield 48, 3) := by decide +kernel
theorem dX2_isEnd_16 : decode cX2_isEnd 16 = .ok (.if_icmp .ge 7, 3) := by decide +kernel
theorem dX2_isEnd_19 : decode cX2_isEnd 19 = .ok (.iconst 1, 1) := by decide +kernel
theorem dX2_isEnd_20 : decode cX2_isEnd 20 = .ok (.goto 4, 3) := by decide +kernel
theorem dX2_isEnd_23 : decode cX2_isEnd 23 = .ok (.iconst 0, 1) := by decide +kernel
theorem dX2_isEnd_24 : decode cX2_isEnd 24 = .ok (.ireturn, 1) := by decide +kernel
theorem dX2_forgetHits_0 : decode cX2_forgetHits 0 = .ok (.aload_n 0, 1) := by decide +kernel
theorem dX2_forgetHits_1 : decode cX2_forgetHits 1 = .ok (.iconst 0, 1) := by decide +kernel
theorem dX2_forgetHits_2 : decode cX2_forgetHits 2 = .ok (.putfield 92, 3) := by decide +kernel
theorem dX2_forgetHits_5 : decode cX2_forgetHits 5 = .ok (.return_, 1) := by decide +kernel
set_option maxRecDepth 20000 in
theorem ggX2_noteStanding_X2_put : GoodIn wsX2_noteStanding wsX2_put := goodIn_r _ [7] (by decide +kernel) (by decide +kernel)
set_option maxRecDepth 20000 in
theorem gX2_noteStanding_X2_put : GoodIn wsX2_noteStanding (va_wsS RX2 117 yX2_put wsX2_put) := goodIn_app (goodIn_of _ (by decide +kernel)) ggX2_noteStanding_X2_put
theorem dX2_noteStanding_0 : decode cX2_noteStanding 0 = .ok (.iconst 0, 1) := by decide +kernel
theorem dX2_noteStanding_1 : decode cX2_noteStanding 1 = .ok (.istore_n 1, 1) := by decide +kernel
theorem dX2_noteStanding_2 : decode cX2_noteStanding 2 = .ok (.iload_n 1, 1) := by decide +kernel
theorem dX2_noteStanding_3 : decode cX2_noteStanding 3 = .ok (.aload_n 0, 1) := by decide +kernel
theorem dX2_noteStanding_4 : decode cX2_noteStanding 4 = .ok (.getfield 48, 3) := by decide +kernel
theorem dX2_noteStanding_7 : decode cX2_noteStanding 7 = .ok (.if_icmp .ge 23, 3) := by decide +kernel
theorem dX2_noteStanding_10 : decode cX2_noteStanding 10 = .ok (.aload_n 0, 1) := by decide +kernel
theorem dX2_noteStanding_11 : decode cX2_noteStanding 11 = .ok (.getfield 38, 3) := by decide +kernel
theorem dX2_noteStanding_14 : decode cX2_noteStanding 14 = .ok (.aload_n 0, 1) := by decide +kernel
theorem dX2_noteStanding_15 : decode cX2_noteStanding 15 = .ok (.getfield 34, 3) := by decide +kernel
theorem dX2_noteStanding_18 : decode cX2_noteStanding 18 = .ok (.iload_n 1, 1) := by decide +kernel
theorem dX2_noteStanding_19 : decode cX2_noteStanding 19 = .ok (.iaload, 1) := by decide +kernel
theorem dX2_noteStanding_20 : decode cX2_noteStanding 20 = .ok (.iload_n 1, 1) := by decide +kernel
theorem dX2_noteStanding_21 : decode cX2_noteStanding 21 = .ok (.invokestatic 117, 3) := by decide +kernel
theorem dX2_noteStanding_24 : decode cX2_noteStanding 24 = .ok (.iinc 1 1, 3) := by decide +kernel
theorem dX2_noteStanding_27 : decode cX2_noteStanding 27 = .ok (.goto (-25), 3) := by decide +kernel
theorem dX2_noteStanding_30 : decode cX2_noteStanding 30 = .ok (.return_, 1) := by decide +kernel
set_option maxRecDepth 20000 in
theorem ggX2_measureNeighbours_X2_at : GoodIn wsX2_measureNeighbours wsX2_at := goodIn_r _ [12] (by decide +kernel) (by decide +kernel)
set_option maxRecDepth 20000 in
theorem gX2_measureNeighbours_X2_at : GoodIn wsX2_measureNeighbours (va_wsS RX2 95 yX2_at wsX2_at) := goodIn_app (goodIn_of _ (by decide +kernel)) ggX2_measureNeighbours_X2_at
set_option maxRecDepth 20000 in
theorem ggX2_measureNeighbours_X2_alikeFrom : GoodIn wsX2_measureNeighbours wsX2_alikeFrom := goodIn_r _ [16, 1, 5, 6, 7, 8, 17, 9, 10, 11, 12, 21, 22, 23, 24, 25, 26, 27, 28, 29, 30, 31, 32] (by decide +kernel) (by decide +kernel)
set_option maxRecDepth 20000 in
theorem gX2_measureNeighbours_X2_alikeFrom : GoodIn wsX2_measureNeighbours (wsV RX2 78 RX2 yX2_alikeFrom wsX2_alikeFrom) := goodIn_app (goodIn_of _ (by decide +kernel)) ggX2_measureNeighbours_X2_alikeFrom
set_option maxRecDepth 20000 in
theorem ggX2_measureNeighbours_X2_put : GoodIn wsX2_measureNeighbours wsX2_put := goodIn_r _ [20] (by decide +kernel) (by decide +kernel)
set_option maxRecDepth 20000 in
theorem gX2_measureNeighbours_X2_put : GoodIn wsX2_measureNeighbours (va_wsS RX2 117 yX2_put wsX2_put) := goodIn_app (goodIn_of _ (by decide +kernel)) ggX2_measureNeighbours_X2_put
theorem dX2_measureNeighbours_0 : decode cX2_measureNeighbours 0 = .ok (.iconst 0, 1) := by decide +kernel
theorem dX2_measureNeighbours_1 : decode cX2_measureNeighbours 1 = .ok (.istore_n 1, 1) := by decide +kernel
theorem dX2_measureNeighbours_2 : decode cX2_measureNeighbours 2 = .ok (.iconst 0, 1) := by decide +kernel
theorem dX2_measureNeighbours_3 : decode cX2_measureNeighbours 3 = .ok (.istore_n 2, 1) := by decide +kernel
theorem dX2_measureNeighbours_4 : decode cX2_measureNeighbours 4 = .ok (.iload_n 2, 1) := by decide +kernel
theorem dX2_measureNeighbours_5 : decode cX2_measureNeighbours 5 = .ok (.aload_n 0, 1) := by decide +kernel
theorem dX2_measureNeighbours_6 : decode cX2_measureNeighbours 6 = .ok (.getfield 48, 3) := by decide +kernel
theorem dX2_measureNeighbours_9 : decode cX2_measureNeighbours 9 = .ok (.if_icmp .ge 58, 3) := by decide +kernel
theorem dX2_measureNeighbours_12 : decode cX2_measureNeighbours 12 = .ok (.aload_n 0, 1) := by decide +kernel
theorem dX2_measureNeighbours_13 : decode cX2_measureNeighbours 13 = .ok (.getfield 38, 3) := by decide +kernel
theorem dX2_measureNeighbours_16 : decode cX2_measureNeighbours 16 = .ok (.iload_n 2, 1) := by decide +kernel
theorem dX2_measureNeighbours_17 : decode cX2_measureNeighbours 17 = .ok (.iaload, 1) := by decide +kernel
theorem dX2_measureNeighbours_18 : decode cX2_measureNeighbours 18 = .ok (.istore_n 3, 1) := by decide +kernel
theorem dX2_measureNeighbours_19 : decode cX2_measureNeighbours 19 = .ok (.iload_n 3, 1) := by decide +kernel
theorem dX2_measureNeighbours_20 : decode cX2_measureNeighbours 20 = .ok (.ifCond .le 22, 3) := by decide +kernel
theorem dX2_measureNeighbours_23 : decode cX2_measureNeighbours 23 = .ok (.aload_n 0, 1) := by decide +kernel
theorem dX2_measureNeighbours_24 : decode cX2_measureNeighbours 24 = .ok (.aload_n 0, 1) := by decide +kernel
theorem dX2_measureNeighbours_25 : decode cX2_measureNeighbours 25 = .ok (.getfield 34, 3) := by decide +kernel
theorem dX2_measureNeighbours_28 : decode cX2_measureNeighbours 28 = .ok (.iload_n 3, 1) := by decide +kernel
theorem dX2_measureNeighbours_29 : decode cX2_measureNeighbours 29 = .ok (.iconst 1, 1) := by decide +kernel
theorem dX2_measureNeighbours_30 : decode cX2_measureNeighbours 30 = .ok (.isub, 1) := by decide +kernel
theorem dX2_measureNeighbours_31 : decode cX2_measureNeighbours 31 = .ok (.invokestatic 95, 3) := by decide +kernel
theorem dX2_measureNeighbours_34 : decode cX2_measureNeighbours 34 = .ok (.iload_n 2, 1) := by decide +kernel
theorem dX2_measureNeighbours_35 : decode cX2_measureNeighbours 35 = .ok (.iload_n 1, 1) := by decide +kernel
theorem dX2_measureNeighbours_36 : decode cX2_measureNeighbours 36 = .ok (.invokevirtual 78, 3) := by decide +kernel
theorem dX2_measureNeighbours_39 : decode cX2_measureNeighbours 39 = .ok (.goto 4, 3) := by decide +kernel
theorem dX2_measureNeighbours_42 : decode cX2_measureNeighbours 42 = .ok (.iconst 0, 1) := by decide +kernel
theorem dX2_measureNeighbours_43 : decode cX2_measureNeighbours 43 = .ok (.istore_n 1, 1) := by decide +kernel
theorem dX2_measureNeighbours_44 : decode cX2_measureNeighbours 44 = .ok (.aload_n 0, 1) := by decide +kernel
theorem dX2_measureNeighbours_45 : decode cX2_measureNeighbours 45 = .ok (.getfield 41, 3) := by decide +kernel
theorem dX2_measureNeighbours_48 : decode cX2_measureNeighbours 48 = .ok (.iload_n 3, 1) := by decide +kernel
theorem dX2_measureNeighbours_49 : decode cX2_measureNeighbours 49 = .ok (.iload_n 1, 1) := by decide +kernel
theorem dX2_measureNeighbours_50 : decode cX2_measureNeighbours 50 = .ok (.invokestatic 117, 3) := by decide +kernel
theorem dX2_measureNeighbours_53 : decode cX2_measureNeighbours 53 = .ok (.iconst 0, 1) := by decide +kernel
theorem dX2_measureNeighbours_54 : decode cX2_measureNeighbours 54 = .ok (.iload_n 1, 1) := by decide +kernel
theorem dX2_measureNeighbours_55 : decode cX2_measureNeighbours 55 = .ok (.iconst 1, 1) := by decide +kernel
theorem dX2_measureNeighbours_56 : decode cX2_measureNeighbours 56 = .ok (.isub, 1) := by decide +kernel
theorem dX2_measureNeighbours_57 : decode cX2_measureNeighbours 57 = .ok (.invokestatic 114, 3) := by decide +kernel
theorem dX2_measureNeighbours_60 : decode cX2_measureNeighbours 60 = .ok (.istore_n 1, 1) := by decide +kernel
theorem dX2_measureNeighbours_61 : decode cX2_measureNeighbours 61 = .ok (.iinc 2 1, 3) := by decide +kernel
theorem dX2_measureNeighbours_64 : decode cX2_measureNeighbours 64 = .ok (.goto (-60), 3) := by decide +kernel
