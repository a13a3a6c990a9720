set_option maxRecDepth 20000 in
theorem gX0_induceFalling_X0_placeFront : GoodIn wsX0_induceFalling (wsV RX0 139 RX0 yX0_placeFront wsX0_placeFront) := goodIn_app (goodIn_of _ (by decide +kernel)) ggX0_induceFalling_X0_placeFront
set_option maxRecDepth 20000 in
theorem ggX0_induceFalling_X0_isFalling : GoodIn wsX0_induceFalling wsX0_isFalling := goodIn_r _ [28, 2, 29, 30, 31, 32, 33, 34, 35, 36, 37, 38, 39, 40, 41, 42, 43, 44] (by decide +kernel) (by decide +kernel)
set_option maxRecDepth 20000 in
theorem gX0_induceFalling_X0_isFalling : GoodIn wsX0_induceFalling (wsV RX0 124 RX0 yX0_isFalling wsX0_isFalling) := goodIn_app (goodIn_of _ (by decide +kernel)) ggX0_induceFalling_X0_isFalling
theorem dX0_induceFalling_0 : decode cX0_induceFalling 0 = .ok (.aload_n 0, 1) := by decide +kernel
theorem dX0_induceFalling_1 : decode cX0_induceFalling 1 = .ok (.aload_n 0, 1) := by decide +kernel
theorem dX0_induceFalling_2 : decode cX0_induceFalling 2 = .ok (.getfield 58, 3) := by decide +kernel
theorem dX0_induceFalling_5 : decode cX0_induceFalling 5 = .ok (.iconst 0, 1) := by decide +kernel
theorem dX0_induceFalling_6 : decode cX0_induceFalling 6 = .ok (.invokevirtual 135, 3) := by decide +kernel
theorem dX0_induceFalling_9 : decode cX0_induceFalling 9 = .ok (.aload_n 0, 1) := by decide +kernel
theorem dX0_induceFalling_10 : decode cX0_induceFalling 10 = .ok (.aload_n 0, 1) := by decide +kernel
theorem dX0_induceFalling_11 : decode cX0_induceFalling 11 = .ok (.getfield 103, 3) := by decide +kernel
theorem dX0_induceFalling_14 : decode cX0_induceFalling 14 = .ok (.iconst 1, 1) := by decide +kernel
theorem dX0_induceFalling_15 : decode cX0_induceFalling 15 = .ok (.isub, 1) := by decide +kernel
theorem dX0_induceFalling_16 : decode cX0_induceFalling 16 = .ok (.invokevirtual 139, 3) := by decide +kernel
theorem dX0_induceFalling_19 : decode cX0_induceFalling 19 = .ok (.iconst 0, 1) := by decide +kernel
theorem dX0_induceFalling_20 : decode cX0_induceFalling 20 = .ok (.istore_n 1, 1) := by decide +kernel
theorem dX0_induceFalling_21 : decode cX0_induceFalling 21 = .ok (.iload_n 1, 1) := by decide +kernel
theorem dX0_induceFalling_22 : decode cX0_induceFalling 22 = .ok (.aload_n 0, 1) := by decide +kernel
theorem dX0_induceFalling_23 : decode cX0_induceFalling 23 = .ok (.getfield 103, 3) := by decide +kernel
theorem dX0_induceFalling_26 : decode cX0_induceFalling 26 = .ok (.if_icmp .ge 31, 3) := by decide +kernel
theorem dX0_induceFalling_29 : decode cX0_induceFalling 29 = .ok (.aload_n 0, 1) := by decide +kernel
theorem dX0_induceFalling_30 : decode cX0_induceFalling 30 = .ok (.getfield 42, 3) := by decide +kernel
theorem dX0_induceFalling_33 : decode cX0_induceFalling 33 = .ok (.iload_n 1, 1) := by decide +kernel
theorem dX0_induceFalling_34 : decode cX0_induceFalling 34 = .ok (.iaload, 1) := by decide +kernel
theorem dX0_induceFalling_35 : decode cX0_induceFalling 35 = .ok (.iconst 1, 1) := by decide +kernel
theorem dX0_induceFalling_36 : decode cX0_induceFalling 36 = .ok (.isub, 1) := by decide +kernel
theorem dX0_induceFalling_37 : decode cX0_induceFalling 37 = .ok (.istore_n 2, 1) := by decide +kernel
theorem dX0_induceFalling_38 : decode cX0_induceFalling 38 = .ok (.aload_n 0, 1) := by decide +kernel
theorem dX0_induceFalling_39 : decode cX0_induceFalling 39 = .ok (.iload_n 2, 1) := by decide +kernel
theorem dX0_induceFalling_40 : decode cX0_induceFalling 40 = .ok (.invokevirtual 124, 3) := by decide +kernel
theorem dX0_induceFalling_43 : decode cX0_induceFalling 43 = .ok (.ifCond .eq 8, 3) := by decide +kernel
theorem dX0_induceFalling_46 : decode cX0_induceFalling 46 = .ok (.aload_n 0, 1) := by decide +kernel
theorem dX0_induceFalling_47 : decode cX0_induceFalling 47 = .ok (.iload_n 2, 1) := by decide +kernel
theorem dX0_induceFalling_48 : decode cX0_induceFalling 48 = .ok (.invokevirtual 139, 3) := by decide +kernel
theorem dX0_induceFalling_51 : decode cX0_induceFalling 51 = .ok (.iinc 1 1, 3) := by decide +kernel
theorem dX0_induceFalling_54 : decode cX0_induceFalling 54 = .ok (.goto (-33), 3) := by decide +kernel
theorem dX0_induceFalling_57 : decode cX0_induceFalling 57 = .ok (.return_, 1) := by decide +kernel
set_option maxRecDepth 20000 in
theorem ggX0_induceRising_X0_startBuckets : GoodIn wsX0_induceRising wsX0_startBuckets := goodIn_r _ [8, 9, 10, 11, 12, 13, 30, 31, 32, 33, 34, 35, 36, 37, 38, 39, 40, 41, 42, 43, 44] (by decide +kernel) (by decide +kernel)
set_option maxRecDepth 20000 in
theorem gX0_induceRising_X0_startBuckets : GoodIn wsX0_induceRising (wsV RX0 135 RX0 yX0_startBuckets wsX0_startBuckets) := goodIn_app (goodIn_of _ (by decide +kernel)) ggX0_induceRising_X0_startBuckets
set_option maxRecDepth 20000 in
theorem ggX0_induceRising_X0_isRising : GoodIn wsX0_induceRising wsX0_isRising := goodIn_r _ [17, 2, 18, 30, 31, 32, 33, 34, 35, 36, 37, 38, 39, 40, 41, 42, 43, 44] (by decide +kernel) (by decide +kernel)
set_option maxRecDepth 20000 in
theorem gX0_induceRising_X0_isRising : GoodIn wsX0_induceRising (wsV RX0 120 RX0 yX0_isRising wsX0_isRising) := goodIn_app (goodIn_of _ (by decide +kernel)) ggX0_induceRising_X0_isRising
set_option maxRecDepth 20000 in
theorem ggX0_induceRising_X0_placeBack : GoodIn wsX0_induceRising wsX0_placeBack := goodIn_r _ [22, 10, 3, 23, 24, 25, 7, 26, 2, 27, 11, 12, 13, 28, 29, 30, 31, 32, 33, 34, 35, 36, 37, 38, 39, 40, 41, 42, 43, 44] (by decide +kernel) (by decide +kernel)
set_option maxRecDepth 20000 in
theorem gX0_induceRising_X0_placeBack : GoodIn wsX0_induceRising (wsV RX0 148 RX0 yX0_placeBack wsX0_placeBack) := goodIn_app (goodIn_of _ (by decide +kernel)) ggX0_induceRising_X0_placeBack
theorem dX0_induceRising_0 : decode cX0_induceRising 0 = .ok (.aload_n 0, 1) := by decide +kernel
theorem dX0_induceRising_1 : decode cX0_induceRising 1 = .ok (.aload_n 0, 1) := by decide +kernel
theorem dX0_induceRising_2 : decode cX0_induceRising 2 = .ok (.getfield 58, 3) := by decide +kernel
theorem dX0_induceRising_5 : decode cX0_induceRising 5 = .ok (.iconst 1, 1) := by decide +kernel
theorem dX0_induceRising_6 : decode cX0_induceRising 6 = .ok (.invokevirtual 135, 3) := by decide +kernel
theorem dX0_induceRising_9 : decode cX0_induceRising 9 = .ok (.aload_n 0, 1) := by decide +kernel
theorem dX0_induceRising_10 : decode cX0_induceRising 10 = .ok (.getfield 103, 3) := by decide +kernel
theorem dX0_induceRising_13 : decode cX0_induceRising 13 = .ok (.iconst 1, 1) := by decide +kernel
theorem dX0_induceRising_14 : decode cX0_induceRising 14 = .ok (.isub, 1) := by decide +kernel
theorem dX0_induceRising_15 : decode cX0_induceRising 15 = .ok (.istore_n 1, 1) := by decide +kernel
theorem dX0_induceRising_16 : decode cX0_induceRising 16 = .ok (.iload_n 1, 1) := by decide +kernel
theorem dX0_induceRising_17 : decode cX0_induceRising 17 = .ok (.ifCond .lt 31, 3) := by decide +kernel
theorem dX0_induceRising_20 : decode cX0_induceRising 20 = .ok (.aload_n 0, 1) := by decide +kernel
theorem dX0_induceRising_21 : decode cX0_induceRising 21 = .ok (.getfield 42, 3) := by decide +kernel
theorem dX0_induceRising_24 : decode cX0_induceRising 24 = .ok (.iload_n 1, 1) := by decide +kernel
theorem dX0_induceRising_25 : decode cX0_induceRising 25 = .ok (.iaload, 1) := by decide +kernel
theorem dX0_induceRising_26 : decode cX0_induceRising 26 = .ok (.iconst 1, 1) := by decide +kernel
theorem dX0_induceRising_27 : decode cX0_induceRising 27 = .ok (.isub, 1) := by decide +kernel
theorem dX0_induceRising_28 : decode cX0_induceRising 28 = .ok (.istore_n 2, 1) := by decide +kernel
theorem dX0_induceRising_29 : decode cX0_induceRising 29 = .ok (.aload_n 0, 1) := by decide +kernel
theorem dX0_induceRising_30 : decode cX0_induceRising 30 = .ok (.iload_n 2, 1) := by decide +kernel
theorem dX0_induceRising_31 : decode cX0_induceRising 31 = .ok (.invokevirtual 120, 3) := by decide +kernel
theorem dX0_induceRising_34 : decode cX0_induceRising 34 = .ok (.ifCond .eq 8, 3) := by decide +kernel
theorem dX0_induceRising_37 : decode cX0_induceRising 37 = .ok (.aload_n 0, 1) := by decide +kernel
theorem dX0_induceRising_38 : decode cX0_induceRising 38 = .ok (.iload_n 2, 1) := by decide +kernel
theorem dX0_induceRising_39 : decode cX0_induceRising 39 = .ok (.invokevirtual 148, 3) := by decide +kernel
theorem dX0_induceRising_42 : decode cX0_induceRising 42 = .ok (.iinc 1 (-1), 3) := by decide +kernel
theorem dX0_induceRising_45 : decode cX0_induceRising 45 = .ok (.goto (-29), 3) := by decide +kernel
theorem dX0_induceRising_48 : decode cX0_induceRising 48 = .ok (.return_, 1) := by decide +kernel
set_option maxRecDepth 20000 in
theorem ggX0_startBuckets_X2_at : GoodIn wsX0_startBuckets wsX2_at := goodIn_r _ [5] (by decide +kernel) (by decide +kernel)
set_option maxRecDepth 20000 in
theorem gX0_startBuckets_X2_at_n131 : GoodIn wsX0_startBuckets (wsX2_at) := ggX0_startBuckets_X2_at
theorem dX0_startBuckets_0 : decode cX0_startBuckets 0 = .ok (.iconst 0, 1) := by decide +kernel
theorem dX0_startBuckets_1 : decode cX0_startBuckets 1 = .ok (.istore_n 3, 1) := by decide +kernel
theorem dX0_startBuckets_2 : decode cX0_startBuckets 2 = .ok (.iload_n 3, 1) := by decide +kernel
theorem dX0_startBuckets_3 : decode cX0_startBuckets 3 = .ok (.aload_n 0, 1) := by decide +kernel
theorem dX0_startBuckets_4 : decode cX0_startBuckets 4 = .ok (.getfield 107, 3) := by decide +kernel
theorem dX0_startBuckets_7 : decode cX0_startBuckets 7 = .ok (.if_icmp .ge 22, 3) := by decide +kernel
theorem dX0_startBuckets_10 : decode cX0_startBuckets 10 = .ok (.aload_n 0, 1) := by decide +kernel
theorem dX0_startBuckets_11 : decode cX0_startBuckets 11 = .ok (.getfield 64, 3) := by decide +kernel
theorem dX0_startBuckets_14 : decode cX0_startBuckets 14 = .ok (.iload_n 3, 1) := by decide +kernel
theorem dX0_startBuckets_15 : decode cX0_startBuckets 15 = .ok (.aload_n 1, 1) := by decide +kernel
theorem dX0_startBuckets_16 : decode cX0_startBuckets 16 = .ok (.iload_n 3, 1) := by decide +kernel
theorem dX0_startBuckets_17 : decode cX0_startBuckets 17 = .ok (.iload_n 2, 1) := by decide +kernel
theorem dX0_startBuckets_18 : decode cX0_startBuckets 18 = .ok (.iadd, 1) := by decide +kernel
theorem dX0_startBuckets_19 : decode cX0_startBuckets 19 = .ok (.invokestatic 131, 3) := by decide +kernel
theorem dX0_startBuckets_22 : decode cX0_startBuckets 22 = .ok (.iastore, 1) := by decide +kernel
theorem dX0_startBuckets_23 : decode cX0_startBuckets 23 = .ok (.iinc 3 1, 3) := by decide +kernel
theorem dX0_startBuckets_26 : decode cX0_startBuckets 26 = .ok (.goto (-24), 3) := by decide +kernel
theorem dX0_startBuckets_29 : decode cX0_startBuckets 29 = .ok (.return_, 1) := by decide +kernel
set_option maxRecDepth 20000 in
theorem ggX0_placeFront_X0_letterAt : GoodIn wsX0_placeFront wsX0_letterAt := goodIn_r _ [7, 8, 9, 15, 16, 17, 18, 19, 20, 21, 22, 23, 24, 25, 26, 27, 28, 29] (by decide +kernel) (by decide +kernel)
set_option maxRecDepth 20000 in
theorem gX0_placeFront_X0_letterAt : GoodIn wsX0_placeFront (wsV RX0 117 RX0 yX0_letterAt wsX0_letterAt) := goodIn_app (goodIn_of _ (by decide +kernel)) ggX0_placeFront_X0_letterAt
set_option maxRecDepth 20000 in
theorem ggX0_placeFront_X2_at : GoodIn wsX0_placeFront wsX2_at := goodIn_r _ [12] (by decide +kernel) (by decide +kernel)
set_option maxRecDepth 20000 in
theorem gX0_placeFront_X2_at_n131 : GoodIn wsX0_placeFront (wsX2_at) := ggX0_placeFront_X2_at
set_option maxRecDepth 20000 in
theorem ggX0_placeFront_X2_put : GoodIn wsX0_placeFront wsX2_put := goodIn_r _ [14] (by decide +kernel) (by decide +kernel)
set_option maxRecDepth 20000 in
theorem gX0_placeFront_X2_put_n127 : GoodIn wsX0_placeFront (wsX2_put) := ggX0_placeFront_X2_put
theorem dX0_placeFront_0 : decode cX0_placeFront 0 = .ok (.aload_n 0, 1) := by decide +kernel
theorem dX0_placeFront_1 : decode cX0_placeFront 1 = .ok (.iload_n 1, 1) := by decide +kernel
theorem dX0_placeFront_2 : decode cX0_placeFront 2 = .ok (.invokevirtual 117, 3) := by decide +kernel
theorem dX0_placeFront_5 : decode cX0_placeFront 5 = .ok (.istore_n 2, 1) := by decide +kernel
theorem dX0_placeFront_6 : decode cX0_placeFront 6 = .ok (.aload_n 0, 1) := by decide +kernel
theorem dX0_placeFront_7 : decode cX0_placeFront 7 = .ok (.getfield 64, 3) := by decide +kernel
theorem dX0_placeFront_10 : decode cX0_placeFront 10 = .ok (.iload_n 2, 1) := by decide +kernel
theorem dX0_placeFront_11 : decode cX0_placeFront 11 = .ok (.invokestatic 131, 3) := by decide +kernel
theorem dX0_placeFront_14 : decode cX0_placeFront 14 = .ok (.istore_n 3, 1) := by decide +kernel
theorem dX0_placeFront_15 : decode cX0_placeFront 15 = .ok (.aload_n 0, 1) := by decide +kernel
theorem dX0_placeFront_16 : decode cX0_placeFront 16 = .ok (.getfield 42, 3) := by decide +kernel
theorem dX0_placeFront_19 : decode cX0_placeFront 19 = .ok (.iload_n 3, 1) := by decide +kernel
theorem dX0_placeFront_20 : decode cX0_placeFront 20 = .ok (.iload_n 1, 1) := by decide +kernel
theorem dX0_placeFront_21 : decode cX0_placeFront 21 = .ok (.invokestatic 127, 3) := by decide +kernel
theorem dX0_placeFront_24 : decode cX0_placeFront 24 = .ok (.aload_n 0, 1) := by decide +kernel
theorem dX0_placeFront_25 : decode cX0_placeFront 25 = .ok (.getfield 64, 3) := by decide +kernel
theorem dX0_placeFront_28 : decode cX0_placeFront 28 = .ok (.iload_n 2, 1) := by decide +kernel
theorem dX0_placeFront_29 : decode cX0_placeFront 29 = .ok (.iload_n 3, 1) := by decide +kernel
theorem dX0_placeFront_30 : decode cX0_placeFront 30 = .ok (.iconst 1, 1) := by decide +kernel
theorem dX0_placeFront_31 : decode cX0_placeFront 31 = .ok (.iadd, 1) := by decide +kernel
theorem dX0_placeFront_32 : decode cX0_placeFront 32 = .ok (.invokestatic 127, 3) := by decide +kernel
theorem dX0_placeFront_35 : decode cX0_placeFront 35 = .ok (.return_, 1) := by decide +kernel
set_option maxRecDepth 20000 in
theorem ggX0_placeBack_X0_letterAt : GoodIn wsX0_placeBack wsX0_letterAt := goodIn_r _ [7, 8, 9, 15, 16, 17, 18, 19, 20, 21, 22, 23, 24, 25, 26, 27, 28, 29] (by decide +kernel) (by decide +kernel)
set_option maxRecDepth 20000 in
theorem gX0_placeBack_X0_letterAt : GoodIn wsX0_placeBack (wsV RX0 117 RX0 yX0_letterAt wsX0_letterAt) := goodIn_app (goodIn_of _ (by decide +kernel)) ggX0_placeBack_X0_letterAt
set_option maxRecDepth 20000 in
theorem ggX0_placeBack_X2_at : GoodIn wsX0_placeBack wsX2_at := goodIn_r _ [12] (by decide +kernel) (by decide +kernel)
set_option maxRecDepth 20000 in
theorem gX0_placeBack_X2_at_n131 : GoodIn wsX0_placeBack (wsX2_at) := ggX0_placeBack_X2_at
set_option maxRecDepth 20000 in
theorem ggX0_placeBack_X2_put : GoodIn wsX0_placeBack wsX2_put := goodIn_r _ [14] (by decide +kernel) (by decide +kernel)
set_option maxRecDepth 20000 in
theorem gX0_placeBack_X2_put_n127 : GoodIn wsX0_placeBack (wsX2_put) := ggX0_placeBack_X2_put
theorem dX0_placeBack_0 : decode cX0_placeBack 0 = .ok (.aload_n 0, 1) := by decide +kernel
theorem dX0_placeBack_1 : decode cX0_placeBack 1 = .ok (.iload_n 1, 1) := by decide +kernel
theorem dX0_placeBack_2 : decode cX0_placeBack 2 = .ok (.invokevirtual 117, 3) := by decide +kernel
theorem dX0_placeBack_5 : decode cX0_placeBack 5 = .ok (.istore_n 2, 1) := by decide +kernel
theorem dX0_placeBack_6 : decode cX0_placeBack 6 = .ok (.aload_n 0, 1) := by decide +kernel
theorem dX0_placeBack_7 : decode cX0_placeBack 7 = .ok (.getfield 64, 3) := by decide +kernel
theorem dX0_placeBack_10 : decode cX0_placeBack 10 = .ok (.iload_n 2, 1) := by decide +kernel
theorem dX0_placeBack_11 : decode cX0_placeBack 11 = .ok (.invokestatic 131, 3) := by decide +kernel
theorem dX0_placeBack_14 : decode cX0_placeBack 14 = .ok (.iconst 1, 1) := by decide +kernel
theorem dX0_placeBack_15 : decode cX0_placeBack 15 = .ok (.isub, 1) := by decide +kernel
theorem dX0_placeBack_16 : decode cX0_placeBack 16 = .ok (.istore_n 3, 1) := by decide +kernel
theorem dX0_placeBack_17 : decode cX0_placeBack 17 = .ok (.aload_n 0, 1) := by decide +kernel
theorem dX0_placeBack_18 : decode cX0_placeBack 18 = .ok (.getfield 42, 3) := by decide +kernel
theorem dX0_placeBack_21 : decode cX0_placeBack 21 = .ok (.iload_n 3, 1) := by decide +kernel
theorem dX0_placeBack_22 : decode cX0_placeBack 22 = .ok (.iload_n 1, 1) := by decide +kernel
theorem dX0_placeBack_23 : decode cX0_placeBack 23 = .ok (.invokestatic 127, 3) := by decide +kernel
theorem dX0_placeBack_26 : decode cX0_placeBack 26 = .ok (.aload_n 0, 1) := by decide +kernel
theorem dX0_placeBack_27 : decode cX0_placeBack 27 = .ok (.getfield 64, 3) := by decide +kernel
theorem dX0_placeBack_30 : decode cX0_placeBack 30 = .ok (.iload_n 2, 1) := by decide +kernel
theorem dX0_placeBack_31 : decode cX0_placeBack 31 = .ok (.iload_n 3, 1) := by decide +kernel
theorem dX0_placeBack_32 : decode cX0_placeBack 32 = .ok (.invokestatic 127, 3) := by decide +kernel
theorem dX0_placeBack_35 : decode cX0_placeBack 35 = .ok (.return_, 1) := by decide +kernel
set_option maxRecDepth 20000 in
theorem ggX0_gatherValleys_X2_at : GoodIn wsX0_gatherValleys wsX2_at := goodIn_r _ [7] (by decide +kernel) (by decide +kernel)
set_option maxRecDepth 20000 in
theorem gX0_gatherValleys_X2_at_n131 : GoodIn wsX0_gatherValleys (wsX2_at) := ggX0_gatherValleys_X2_at
set_option maxRecDepth 20000 in
theorem ggX0_gatherValleys_X2_put : GoodIn wsX0_gatherValleys wsX2_put := goodIn_r _ [9] (by decide +kernel) (by decide +kernel)
set_option maxRecDepth 20000 in
theorem gX0_gatherValleys_X2_put_n127 : GoodIn wsX0_gatherValleys (wsX2_put) := ggX0_gatherValleys_X2_put
theorem dX0_gatherValleys_0 : decode cX0_gatherValleys 0 = .ok (.iconst 0, 1) := by decide +kernel
theorem dX0_gatherValleys_1 : decode cX0_gatherValleys 1 = .ok (.istore_n 1, 1) := by decide +kernel
theorem dX0_gatherValleys_2 : decode cX0_gatherValleys 2 = .ok (.iconst 0, 1) := by decide +kernel
theorem dX0_gatherValleys_3 : decode cX0_gatherValleys 3 = .ok (.istore_n 2, 1) := by decide +kernel
theorem dX0_gatherValleys_4 : decode cX0_gatherValleys 4 = .ok (.iload_n 2, 1) := by decide +kernel
theorem dX0_gatherValleys_5 : decode cX0_gatherValleys 5 = .ok (.aload_n 0, 1) := by decide +kernel
theorem dX0_gatherValleys_6 : decode cX0_gatherValleys 6 = .ok (.getfield 103, 3) := by decide +kernel
theorem dX0_gatherValleys_9 : decode cX0_gatherValleys 9 = .ok (.if_icmp .ge 40, 3) := by decide +kernel
theorem dX0_gatherValleys_12 : decode cX0_gatherValleys 12 = .ok (.aload_n 0, 1) := by decide +kernel
theorem dX0_gatherValleys_13 : decode cX0_gatherValleys 13 = .ok (.getfield 42, 3) := by decide +kernel
theorem dX0_gatherValleys_16 : decode cX0_gatherValleys 16 = .ok (.iload_n 2, 1) := by decide +kernel
theorem dX0_gatherValleys_17 : decode cX0_gatherValleys 17 = .ok (.iaload, 1) := by decide +kernel
theorem dX0_gatherValleys_18 : decode cX0_gatherValleys 18 = .ok (.istore_n 3, 1) := by decide +kernel
theorem dX0_gatherValleys_19 : decode cX0_gatherValleys 19 = .ok (.aload_n 0, 1) := by decide +kernel
theorem dX0_gatherValleys_20 : decode cX0_gatherValleys 20 = .ok (.getfield 49, 3) := by decide +kernel
theorem dX0_gatherValleys_23 : decode cX0_gatherValleys 23 = .ok (.iload_n 3, 1) := by decide +kernel
theorem dX0_gatherValleys_24 : decode cX0_gatherValleys 24 = .ok (.invokestatic 131, 3) := by decide +kernel
theorem dX0_gatherValleys_27 : decode cX0_gatherValleys 27 = .ok (.iconst (-1), 1) := by decide +kernel
theorem dX0_gatherValleys_28 : decode cX0_gatherValleys 28 = .ok (.if_icmp .eq 15, 3) := by decide +kernel
theorem dX0_gatherValleys_31 : decode cX0_gatherValleys 31 = .ok (.aload_n 0, 1) := by decide +kernel
theorem dX0_gatherValleys_32 : decode cX0_gatherValleys 32 = .ok (.getfield 55, 3) := by decide +kernel
theorem dX0_gatherValleys_35 : decode cX0_gatherValleys 35 = .ok (.iload_n 1, 1) := by decide +kernel
theorem dX0_gatherValleys_36 : decode cX0_gatherValleys 36 = .ok (.iload_n 3, 1) := by decide +kernel
theorem dX0_gatherValleys_37 : decode cX0_gatherValleys 37 = .ok (.invokestatic 127, 3) := by decide +kernel
theorem dX0_gatherValleys_40 : decode cX0_gatherValleys 40 = .ok (.iinc 1 1, 3) := by decide +kernel
theorem dX0_gatherValleys_43 : decode cX0_gatherValleys 43 = .ok (.iinc 2 1, 3) := by decide +kernel
theorem dX0_gatherValleys_46 : decode cX0_gatherValleys 46 = .ok (.goto (-42), 3) := by decide +kernel
theorem dX0_gatherValleys_49 : decode cX0_gatherValleys 49 = .ok (.return_, 1) := by decide +kernel
set_option maxRecDepth 20000 in
theorem ggX0_nameValleys_X2_at : GoodIn wsX0_nameValleys wsX2_at := goodIn_r _ [6] (by decide +kernel) (by decide +kernel)
set_option maxRecDepth 20000 in
theorem gX0_nameValleys_X2_at_n131 : GoodIn wsX0_nameValleys (wsX2_at) := ggX0_nameValleys_X2_at
set_option maxRecDepth 20000 in
theorem ggX0_nameValleys_X0_areAlike : GoodIn wsX0_nameValleys wsX0_areAlike := goodIn_r _ [11, 12, 13, 14, 10, 15, 3, 1, 16, 17, 4, 5, 6, 18, 19, 20, 21, 22, 25, 26, 27, 28, 29, 30, 31, 32, 33, 34, 35, 36, 37, 38, 39] (by decide +kernel) (by decide +kernel)
set_option maxRecDepth 20000 in
theorem gX0_nameValleys_X0_areAlike : GoodIn wsX0_nameValleys (wsV RX0 151 RX0 yX0_areAlike wsX0_areAlike) := goodIn_app (goodIn_of _ (by decide +kernel)) ggX0_nameValleys_X0_areAlike
set_option maxRecDepth 20000 in
theorem ggX0_nameValleys_X2_put : GoodIn wsX0_nameValleys wsX2_put := goodIn_r _ [24] (by decide +kernel) (by decide +kernel)
set_option maxRecDepth 20000 in
theorem gX0_nameValleys_X2_put_n127 : GoodIn wsX0_nameValleys (wsX2_put) := ggX0_nameValleys_X2_put
theorem dX0_nameValleys_0 : decode cX0_nameValleys 0 = .ok (.iconst 0, 1) := by decide +kernel
theorem dX0_nameValleys_1 : decode cX0_nameValleys 1 = .ok (.istore_n 2, 1) := by decide +kernel
theorem dX0_nameValleys_2 : decode cX0_nameValleys 2 = .ok (.iconst (-1), 1) := by decide +kernel
theorem dX0_nameValleys_3 : decode cX0_nameValleys 3 = .ok (.istore_n 3, 1) := by decide +kernel
theorem dX0_nameValleys_4 : decode cX0_nameValleys 4 = .ok (.iconst 0, 1) := by decide +kernel
theorem dX0_nameValleys_5 : decode cX0_nameValleys 5 = .ok (.istore 4, 2) := by decide +kernel
theorem dX0_nameValleys_7 : decode cX0_nameValleys 7 = .ok (.iload 4, 2) := by decide +kernel
theorem dX0_nameValleys_9 : decode cX0_nameValleys 9 = .ok (.aload_n 0, 1) := by decide +kernel
theorem dX0_nameValleys_10 : decode cX0_nameValleys 10 = .ok (.getfield 97, 3) := by decide +kernel
theorem dX0_nameValleys_13 : decode cX0_nameValleys 13 = .ok (.if_icmp .ge 57, 3) := by decide +kernel
theorem dX0_nameValleys_16 : decode cX0_nameValleys 16 = .ok (.aload_n 0, 1) := by decide +kernel
theorem dX0_nameValleys_17 : decode cX0_nameValleys 17 = .ok (.getfield 55, 3) := by decide +kernel
theorem dX0_nameValleys_20 : decode cX0_nameValleys 20 = .ok (.iload 4, 2) := by decide +kernel
theorem dX0_nameValleys_22 : decode cX0_nameValleys 22 = .ok (.invokestatic 131, 3) := by decide +kernel
theorem dX0_nameValleys_25 : decode cX0_nameValleys 25 = .ok (.istore 5, 2) := by decide +kernel
theorem dX0_nameValleys_27 : decode cX0_nameValleys 27 = .ok (.iload 4, 2) := by decide +kernel
theorem dX0_nameValleys_29 : decode cX0_nameValleys 29 = .ok (.ifCond .eq 13, 3) := by decide +kernel
theorem dX0_nameValleys_32 : decode cX0_nameValleys 32 = .ok (.aload_n 0, 1) := by decide +kernel
theorem dX0_nameValleys_33 : decode cX0_nameValleys 33 = .ok (.iload_n 3, 1) := by decide +kernel
theorem dX0_nameValleys_34 : decode cX0_nameValleys 34 = .ok (.iload 5, 2) := by decide +kernel
theorem dX0_nameValleys_36 : decode cX0_nameValleys 36 = .ok (.invokevirtual 151, 3) := by decide +kernel
theorem dX0_nameValleys_39 : decode cX0_nameValleys 39 = .ok (.ifCond .ne 6, 3) := by decide +kernel
theorem dX0_nameValleys_42 : decode cX0_nameValleys 42 = .ok (.iinc 2 1, 3) := by decide +kernel
theorem dX0_nameValleys_45 : decode cX0_nameValleys 45 = .ok (.aload_n 1, 1) := by decide +kernel
theorem dX0_nameValleys_46 : decode cX0_nameValleys 46 = .ok (.aload_n 0, 1) := by decide +kernel
theorem dX0_nameValleys_47 : decode cX0_nameValleys 47 = .ok (.getfield 49, 3) := by decide +kernel
theorem dX0_nameValleys_50 : decode cX0_nameValleys 50 = .ok (.iload 5, 2) := by decide +kernel
theorem dX0_nameValleys_52 : decode cX0_nameValleys 52 = .ok (.invokestatic 131, 3) := by decide +kernel
theorem dX0_nameValleys_55 : decode cX0_nameValleys 55 = .ok (.iload_n 2, 1) := by decide +kernel
theorem dX0_nameValleys_56 : decode cX0_nameValleys 56 = .ok (.iconst 1, 1) := by decide +kernel
theorem dX0_nameValleys_57 : decode cX0_nameValleys 57 = .ok (.isub, 1) := by decide +kernel
theorem dX0_nameValleys_58 : decode cX0_nameValleys 58 = .ok (.invokestatic 127, 3) := by decide +kernel
theorem dX0_nameValleys_61 : decode cX0_nameValleys 61 = .ok (.iload 5, 2) := by decide +kernel
theorem dX0_nameValleys_63 : decode cX0_nameValleys 63 = .ok (.istore_n 3, 1) := by decide +kernel
theorem dX0_nameValleys_64 : decode cX0_nameValleys 64 = .ok (.iinc 4 1, 3) := by decide +kernel
theorem dX0_nameValleys_67 : decode cX0_nameValleys 67 = .ok (.goto (-60), 3) := by decide +kernel
theorem dX0_nameValleys_70 : decode cX0_nameValleys 70 = .ok (.iload_n 2, 1) := by decide +kernel
theorem dX0_nameValleys_71 : decode cX0_nameValleys 71 = .ok (.ireturn, 1) := by decide +kernel
set_option maxRecDepth 20000 in
theorem ggX0_areAlike_X0_stepsToNext : GoodIn wsX0_areAlike wsX0_stepsToNext := goodIn_r _ [5, 6, 7, 8, 9, 10, 11, 12, 18, 19, 20, 21, 22, 23, 24, 25, 26, 27, 28, 29, 30, 31, 32] (by decide +kernel) (by decide +kernel)
set_option maxRecDepth 20000 in
theorem gX0_areAlike_X0_stepsToNext : GoodIn wsX0_areAlike (wsV RX0 155 RX0 yX0_stepsToNext wsX0_stepsToNext) := goodIn_app (goodIn_of _ (by decide +kernel)) ggX0_areAlike_X0_stepsToNext
set_option maxRecDepth 20000 in
theorem ggX0_areAlike_X0_letterAt : GoodIn wsX0_areAlike wsX0_letterAt := goodIn_r _ [16, 9, 17, 18, 19, 20, 21, 22, 23, 24, 25, 26, 27, 28, 29, 30, 31, 32] (by decide +kernel) (by decide +kernel)
set_option maxRecDepth 20000 in
theorem gX0_areAlike_X0_letterAt : GoodIn wsX0_areAlike (wsV RX0 117 RX0 yX0_letterAt wsX0_letterAt) := goodIn_app (goodIn_of _ (by decide +kernel)) ggX0_areAlike_X0_letterAt
theorem dX0_areAlike_0 : decode cX0_areAlike 0 = .ok (.aload_n 0, 1) := by decide +kernel
theorem dX0_areAlike_1 : decode cX0_areAlike 1 = .ok (.iload_n 1, 1) := by decide +kernel
theorem dX0_areAlike_2 : decode cX0_areAlike 2 = .ok (.invokevirtual 155, 3) := by decide +kernel
theorem dX0_areAlike_5 : decode cX0_areAlike 5 = .ok (.istore_n 3, 1) := by decide +kernel
theorem dX0_areAlike_6 : decode cX0_areAlike 6 = .ok (.iload_n 3, 1) := by decide +kernel
theorem dX0_areAlike_7 : decode cX0_areAlike 7 = .ok (.aload_n 0, 1) := by decide +kernel
theorem dX0_areAlike_8 : decode cX0_areAlike 8 = .ok (.iload_n 2, 1) := by decide +kernel
theorem dX0_areAlike_9 : decode cX0_areAlike 9 = .ok (.invokevirtual 155, 3) := by decide +kernel
theorem dX0_areAlike_12 : decode cX0_areAlike 12 = .ok (.if_icmp .eq 5, 3) := by decide +kernel
theorem dX0_areAlike_15 : decode cX0_areAlike 15 = .ok (.iconst 0, 1) := by decide +kernel
theorem dX0_areAlike_16 : decode cX0_areAlike 16 = .ok (.ireturn, 1) := by decide +kernel
theorem dX0_areAlike_17 : decode cX0_areAlike 17 = .ok (.iconst 0, 1) := by decide +kernel
theorem dX0_areAlike_18 : decode cX0_areAlike 18 = .ok (.istore 4, 2) := by decide +kernel
theorem dX0_areAlike_20 : decode cX0_areAlike 20 = .ok (.iload 4, 2) := by decide +kernel
theorem dX0_areAlike_22 : decode cX0_areAlike 22 = .ok (.iload_n 3, 1) := by decide +kernel
theorem dX0_areAlike_23 : decode cX0_areAlike 23 = .ok (.if_icmp .gt 30, 3) := by decide +kernel
theorem dX0_areAlike_26 : decode cX0_areAlike 26 = .ok (.aload_n 0, 1) := by decide +kernel
theorem dX0_areAlike_27 : decode cX0_areAlike 27 = .ok (.iload_n 1, 1) := by decide +kernel
theorem dX0_areAlike_28 : decode cX0_areAlike 28 = .ok (.iload 4, 2) := by decide +kernel
theorem dX0_areAlike_30 : decode cX0_areAlike 30 = .ok (.iadd, 1) := by decide +kernel
theorem dX0_areAlike_31 : decode cX0_areAlike 31 = .ok (.invokevirtual 117, 3) := by decide +kernel
theorem dX0_areAlike_34 : decode cX0_areAlike 34 = .ok (.aload_n 0, 1) := by decide +kernel
theorem dX0_areAlike_35 : decode cX0_areAlike 35 = .ok (.iload_n 2, 1) := by decide +kernel
theorem dX0_areAlike_36 : decode cX0_areAlike 36 = .ok (.iload 4, 2) := by decide +kernel
theorem dX0_areAlike_38 : decode cX0_areAlike 38 = .ok (.iadd, 1) := by decide +kernel
theorem dX0_areAlike_39 : decode cX0_areAlike 39 = .ok (.invokevirtual 117, 3) := by decide +kernel
theorem dX0_areAlike_42 : decode cX0_areAlike 42 = .ok (.if_icmp .eq 5, 3) := by decide +kernel
theorem dX0_areAlike_45 : decode cX0_areAlike 45 = .ok (.iconst 0, 1) := by decide +kernel
theorem dX0_areAlike_46 : decode cX0_areAlike 46 = .ok (.ireturn, 1) := by decide +kernel
theorem dX0_areAlike_47 : decode cX0_areAlike 47 = .ok (.iinc 4 1, 3) := by decide +kernel
theorem dX0_areAlike_50 : decode cX0_areAlike 50 = .ok (.goto (-30), 3) := by decide +kernel
theorem dX0_areAlike_53 : decode cX0_areAlike 53 = .ok (.iconst 1, 1) := by decide +kernel
theorem dX0_areAlike_54 : decode cX0_areAlike 54 = .ok (.ireturn, 1) := by decide +kernel
set_option maxRecDepth 20000 in
theorem ggX0_stepsToNext_X2_at : GoodIn wsX0_stepsToNext wsX2_at := goodIn_r _ [7] (by decide +kernel) (by decide +kernel)
set_option maxRecDepth 20000 in
theorem gX0_stepsToNext_X2_at_n131 : GoodIn wsX0_stepsToNext (wsX2_at) := ggX0_stepsToNext_X2_at
theorem dX0_stepsToNext_0 : decode cX0_stepsToNext 0 = .ok (.aload_n 0, 1) := by decide +kernel
theorem dX0_stepsToNext_1 : decode cX0_stepsToNext 1 = .ok (.getfield 49, 3) := by decide +kernel
theorem dX0_stepsToNext_4 : decode cX0_stepsToNext 4 = .ok (.iload_n 1, 1) := by decide +kernel
theorem dX0_stepsToNext_5 : decode cX0_stepsToNext 5 = .ok (.invokestatic 131, 3) := by decide +kernel
theorem dX0_stepsToNext_8 : decode cX0_stepsToNext 8 = .ok (.iconst 1, 1) := by decide +kernel
theorem dX0_stepsToNext_9 : decode cX0_stepsToNext 9 = .ok (.iadd, 1) := by decide +kernel
theorem dX0_stepsToNext_10 : decode cX0_stepsToNext 10 = .ok (.istore_n 2, 1) := by decide +kernel
theorem dX0_stepsToNext_11 : decode cX0_stepsToNext 11 = .ok (.iload_n 2, 1) := by decide +kernel
theorem dX0_stepsToNext_12 : decode cX0_stepsToNext 12 = .ok (.aload_n 0, 1) := by decide +kernel
theorem dX0_stepsToNext_13 : decode cX0_stepsToNext 13 = .ok (.getfield 97, 3) := by decide +kernel
theorem dX0_stepsToNext_16 : decode cX0_stepsToNext 16 = .ok (.if_icmp .ge 14, 3) := by decide +kernel
theorem dX0_stepsToNext_19 : decode cX0_stepsToNext 19 = .ok (.aload_n 0, 1) := by decide +kernel
theorem dX0_stepsToNext_20 : decode cX0_stepsToNext 20 = .ok (.getfield 52, 3) := by decide +kernel
theorem dX0_stepsToNext_23 : decode cX0_stepsToNext 23 = .ok (.iload_n 2, 1) := by decide +kernel
theorem dX0_stepsToNext_24 : decode cX0_stepsToNext 24 = .ok (.invokestatic 131, 3) := by decide +kernel
theorem dX0_stepsToNext_27 : decode cX0_stepsToNext 27 = .ok (.goto 7, 3) := by decide +kernel
theorem dX0_stepsToNext_30 : decode cX0_stepsToNext 30 = .ok (.aload_n 0, 1) := by decide +kernel
theorem dX0_stepsToNext_31 : decode cX0_stepsToNext 31 = .ok (.getfield 103, 3) := by decide +kernel
theorem dX0_stepsToNext_34 : decode cX0_stepsToNext 34 = .ok (.iload_n 1, 1) := by decide +kernel
theorem dX0_stepsToNext_35 : decode cX0_stepsToNext 35 = .ok (.isub, 1) := by decide +kernel
theorem dX0_stepsToNext_36 : decode cX0_stepsToNext 36 = .ok (.ireturn, 1) := by decide +kernel
set_option maxRecDepth 20000 in
theorem ggX0_takeOrderFromBelow_X2_at : GoodIn wsX0_takeOrderFromBelow wsX2_at := goodIn_r _ [7] (by decide +kernel) (by decide +kernel)
set_option maxRecDepth 20000 in
theorem gX0_takeOrderFromBelow_X2_at_n131 : GoodIn wsX0_takeOrderFromBelow (wsX2_at) := ggX0_takeOrderFromBelow_X2_at
set_option maxRecDepth 20000 in
theorem ggX0_takeOrderFromBelow_X2_put : GoodIn wsX0_takeOrderFromBelow wsX2_put := goodIn_r _ [9] (by decide +kernel) (by decide +kernel)
set_option maxRecDepth 20000 in
theorem gX0_takeOrderFromBelow_X2_put_n127 : GoodIn wsX0_takeOrderFromBelow (wsX2_put) := ggX0_takeOrderFromBelow_X2_put
theorem dX0_takeOrderFromBelow_0 : decode cX0_takeOrderFromBelow 0 = .ok (.iconst 0, 1) := by decide +kernel
theorem dX0_takeOrderFromBelow_1 : decode cX0_takeOrderFromBelow 1 = .ok (.istore_n 1, 1) := by decide +kernel
theorem dX0_takeOrderFromBelow_2 : decode cX0_takeOrderFromBelow 2 = .ok (.iload_n 1, 1) := by decide +kernel
theorem dX0_takeOrderFromBelow_3 : decode cX0_takeOrderFromBelow 3 = .ok (.aload_n 0, 1) := by decide +kernel
theorem dX0_takeOrderFromBelow_4 : decode cX0_takeOrderFromBelow 4 = .ok (.getfield 97, 3) := by decide +kernel
theorem dX0_takeOrderFromBelow_7 : decode cX0_takeOrderFromBelow 7 = .ok (.if_icmp .ge 32, 3) := by decide +kernel
theorem dX0_takeOrderFromBelow_10 : decode cX0_takeOrderFromBelow 10 = .ok (.aload_n 0, 1) := by decide +kernel
theorem dX0_takeOrderFromBelow_11 : decode cX0_takeOrderFromBelow 11 = .ok (.getfield 55, 3) := by decide +kernel
theorem dX0_takeOrderFromBelow_14 : decode cX0_takeOrderFromBelow 14 = .ok (.iload_n 1, 1) := by decide +kernel
theorem dX0_takeOrderFromBelow_15 : decode cX0_takeOrderFromBelow 15 = .ok (.aload_n 0, 1) := by decide +kernel
theorem dX0_takeOrderFromBelow_16 : decode cX0_takeOrderFromBelow 16 = .ok (.getfield 52, 3) := by decide +kernel
theorem dX0_takeOrderFromBelow_19 : decode cX0_takeOrderFromBelow 19 = .ok (.aload_n 0, 1) := by decide +kernel
theorem dX0_takeOrderFromBelow_20 : decode cX0_takeOrderFromBelow 20 = .ok (.getfield 42, 3) := by decide +kernel
theorem dX0_takeOrderFromBelow_23 : decode cX0_takeOrderFromBelow 23 = .ok (.iload_n 1, 1) := by decide +kernel
theorem dX0_takeOrderFromBelow_24 : decode cX0_takeOrderFromBelow 24 = .ok (.invokestatic 131, 3) := by decide +kernel
theorem dX0_takeOrderFromBelow_27 : decode cX0_takeOrderFromBelow 27 = .ok (.invokestatic 131, 3) := by decide +kernel
theorem dX0_takeOrderFromBelow_30 : decode cX0_takeOrderFromBelow 30 = .ok (.invokestatic 127, 3) := by decide +kernel
theorem dX0_takeOrderFromBelow_33 : decode cX0_takeOrderFromBelow 33 = .ok (.iinc 1 1, 3) := by decide +kernel
theorem dX0_takeOrderFromBelow_36 : decode cX0_takeOrderFromBelow 36 = .ok (.goto (-34), 3) := by decide +kernel
theorem dX0_takeOrderFromBelow_39 : decode cX0_takeOrderFromBelow 39 = .ok (.return_, 1) := by decide +kernel
theorem dX0_letterAt_0 : decode cX0_letterAt 0 = .ok (.iload_n 1, 1) := by decide +kernel
theorem dX0_letterAt_1 : decode cX0_letterAt 1 = .ok (.ifCond .lt 20, 3) := by decide +kernel
theorem dX0_letterAt_4 : decode cX0_letterAt 4 = .ok (.iload_n 1, 1) := by decide +kernel
theorem dX0_letterAt_5 : decode cX0_letterAt 5 = .ok (.aload_n 0, 1) := by decide +kernel
theorem dX0_letterAt_6 : decode cX0_letterAt 6 = .ok (.getfield 103, 3) := by decide +kernel
theorem dX0_letterAt_9 : decode cX0_letterAt 9 = .ok (.if_icmp .ge 12, 3) := by decide +kernel
theorem dX0_letterAt_12 : decode cX0_letterAt 12 = .ok (.aload_n 0, 1) := by decide +kernel
theorem dX0_letterAt_13 : decode cX0_letterAt 13 = .ok (.getfield 41, 3) := by decide +kernel
theorem dX0_letterAt_16 : decode cX0_letterAt 16 = .ok (.iload_n 1, 1) := by decide +kernel
theorem dX0_letterAt_17 : decode cX0_letterAt 17 = .ok (.iaload, 1) := by decide +kernel
theorem dX0_letterAt_18 : decode cX0_letterAt 18 = .ok (.goto 4, 3) := by decide +kernel
theorem dX0_letterAt_21 : decode cX0_letterAt 21 = .ok (.iconst (-1), 1) := by decide +kernel
theorem dX0_letterAt_22 : decode cX0_letterAt 22 = .ok (.ireturn, 1) := by decide +kernel
theorem dX0_isRising_0 : decode cX0_isRising 0 = .ok (.iload_n 1, 1) := by decide +kernel
theorem dX0_isRising_1 : decode cX0_isRising 1 = .ok (.ifCond .lt 24, 3) := by decide +kernel
theorem dX0_isRising_4 : decode cX0_isRising 4 = .ok (.iload_n 1, 1) := by decide +kernel
theorem dX0_isRising_5 : decode cX0_isRising 5 = .ok (.aload_n 0, 1) := by decide +kernel
theorem dX0_isRising_6 : decode cX0_isRising 6 = .ok (.getfield 103, 3) := by decide +kernel
theorem dX0_isRising_9 : decode cX0_isRising 9 = .ok (.if_icmp .ge 16, 3) := by decide +kernel
theorem dX0_isRising_12 : decode cX0_isRising 12 = .ok (.aload_n 0, 1) := by decide +kernel
theorem dX0_isRising_13 : decode cX0_isRising 13 = .ok (.getfield 45, 3) := by decide +kernel
theorem dX0_isRising_16 : decode cX0_isRising 16 = .ok (.iload_n 1, 1) := by decide +kernel
theorem dX0_isRising_17 : decode cX0_isRising 17 = .ok (.baload, 1) := by decide +kernel
theorem dX0_isRising_18 : decode cX0_isRising 18 = .ok (.ifCond .eq 7, 3) := by decide +kernel
theorem dX0_isRising_21 : decode cX0_isRising 21 = .ok (.iconst 1, 1) := by decide +kernel
theorem dX0_isRising_22 : decode cX0_isRising 22 = .ok (.goto 4, 3) := by decide +kernel
theorem dX0_isRising_25 : decode cX0_isRising 25 = .ok (.iconst 0, 1) := by decide +kernel
theorem dX0_isRising_26 : decode cX0_isRising 26 = .ok (.ireturn, 1) := by decide +kernel
theorem dX0_isFalling_0 : decode cX0_isFalling 0 = .ok (.iload_n 1, 1) := by decide +kernel
theorem dX0_isFalling_1 : decode cX0_isFalling 1 = .ok (.ifCond .lt 24, 3) := by decide +kernel
theorem dX0_isFalling_4 : decode cX0_isFalling 4 = .ok (.iload_n 1, 1) := by decide +kernel
theorem dX0_isFalling_5 : decode cX0_isFalling 5 = .ok (.aload_n 0, 1) := by decide +kernel
theorem dX0_isFalling_6 : decode cX0_isFalling 6 = .ok (.getfield 103, 3) := by decide +kernel
theorem dX0_isFalling_9 : decode cX0_isFalling 9 = .ok (.if_icmp .ge 16, 3) := by decide +kernel
theorem dX0_isFalling_12 : decode cX0_isFalling 12 = .ok (.aload_n 0, 1) := by decide +kernel
theorem dX0_isFalling_13 : decode cX0_isFalling 13 = .ok (.getfield 45, 3) := by decide +kernel
theorem dX0_isFalling_16 : decode cX0_isFalling 16 = .ok (.iload_n 1, 1) := by decide +kernel
theorem dX0_isFalling_17 : decode cX0_isFalling 17 = .ok (.baload, 1) := by decide +kernel
theorem dX0_isFalling_18 : decode cX0_isFalling 18 = .ok (.ifCond .ne 7, 3) := by decide +kernel
theorem dX0_isFalling_21 : decode cX0_isFalling 21 = .ok (.iconst 1, 1) := by decide +kernel
theorem dX0_isFalling_22 : decode cX0_isFalling 22 = .ok (.goto 4, 3) := by decide +kernel
theorem dX0_isFalling_25 : decode cX0_isFalling 25 = .ok (.iconst 0, 1) := by decide +kernel
theorem dX0_isFalling_26 : decode cX0_isFalling 26 = .ok (.ireturn, 1) := by decide +kernel
theorem dX1_init_0 : decode cX1_init 0 = .ok (.aload_n 0, 1) := by decide +kernel
theorem dX1_init_1 : decode cX1_init 1 = .ok (.invokespecial 1, 3) := by decide +kernel
theorem dX1_init_4 : decode cX1_init 4 = .ok (.aload_n 0, 1) := by decide +kernel
theorem dX1_init_5 : decode cX1_init 5 = .ok (.iconst 0, 1) := by decide +kernel
theorem dX1_init_6 : decode cX1_init 6 = .ok (.iload_n 1, 1) := by decide +kernel
theorem dX1_init_7 : decode cX1_init 7 = .ok (.invokestatic 7, 3) := by decide +kernel
theorem dX1_init_10 : decode cX1_init 10 = .ok (.newarray .int, 2) := by decide +kernel
theorem dX1_init_12 : decode cX1_init 12 = .ok (.putfield 13, 3) := by decide +kernel
theorem dX1_init_15 : decode cX1_init 15 = .ok (.return_, 1) := by decide +kernel
theorem dX1_hold_0 : decode cX1_hold 0 = .ok (.aload_n 0, 1) := by decide +kernel
theorem dX1_hold_1 : decode cX1_hold 1 = .ok (.iload_n 1, 1) := by decide +kernel
theorem dX1_hold_2 : decode cX1_hold 2 = .ok (.aload_n 0, 1) := by decide +kernel
theorem dX1_hold_3 : decode cX1_hold 3 = .ok (.getfield 13, 3) := by decide +kernel
theorem dX1_hold_6 : decode cX1_hold 6 = .ok (.arraylength, 1) := by decide +kernel
theorem dX1_hold_7 : decode cX1_hold 7 = .ok (.invokestatic 19, 3) := by decide +kernel
theorem dX1_hold_10 : decode cX1_hold 10 = .ok (.putfield 22, 3) := by decide +kernel
theorem dX1_hold_13 : decode cX1_hold 13 = .ok (.aload_n 0, 1) := by decide +kernel
theorem dX1_hold_14 : decode cX1_hold 14 = .ok (.iload_n 2, 1) := by decide +kernel
theorem dX1_hold_15 : decode cX1_hold 15 = .ok (.putfield 26, 3) := by decide +kernel
theorem dX1_hold_18 : decode cX1_hold 18 = .ok (.return_, 1) := by decide +kernel
set_option maxRecDepth 20000 in
theorem ggX2_init_X2_nearest : GoodIn wsX2_init wsX2_nearest := goodIn_r _ [20, 21, 22, 23, 24, 25, 26, 27] (by decide +kernel) (by decide +kernel)
set_option maxRecDepth 20000 in
theorem gX2_init_X2_nearest : GoodIn wsX2_init (va_wsS RX2 9 yX2_nearest wsX2_nearest) := goodIn_app (goodIn_of _ (by decide +kernel)) ggX2_init_X2_nearest
set_option maxRecDepth 20000 in
theorem ggX2_init_X0_init : GoodIn wsX2_init wsX0_init := goodIn_r _ [30, 31, 2, 3, 32, 33, 34, 35, 36, 26, 23, 27, 37, 38, 39, 40, 13, 41, 42, 43, 44, 45, 46, 47, 48, 49, 50, 51, 7, 52, 53, 54, 55, 56, 57, 58, 71, 72, 73, 74, 75, 76, 77, 78, 79, 80, 81, 82, 83, 84, 85, 86, 87, 88] (by decide +kernel) (by decide +kernel)
set_option maxRecDepth 20000 in
theorem gX2_init_X0_init : GoodIn wsX2_init (wsX0_init) := ggX2_init_X0_init
theorem dX2_init_0 : decode cX2_init 0 = .ok (.aload_n 0, 1) := by decide +kernel
theorem dX2_init_1 : decode cX2_init 1 = .ok (.invokespecial 1, 3) := by decide +kernel
theorem dX2_init_4 : decode cX2_init 4 = .ok (.iload_n 1, 1) := by decide +kernel
theorem dX2_init_5 : decode cX2_init 5 = .ok (.sipush 1000, 3) := by decide +kernel
theorem dX2_init_8 : decode cX2_init 8 = .ok (.invokestatic 9, 3) := by decide +kernel
theorem dX2_init_11 : decode cX2_init 11 = .ok (.istore 4, 2) := by decide +kernel
theorem dX2_init_13 : decode cX2_init 13 = .ok (.aload_n 0, 1) := by decide +kernel
theorem dX2_init_14 : decode cX2_init 14 = .ok (.iload_n 2, 1) := by decide +kernel
theorem dX2_init_15 : decode cX2_init 15 = .ok (.sipush 256, 3) := by decide +kernel
theorem dX2_init_18 : decode cX2_init 18 = .ok (.invokestatic 9, 3) := by decide +kernel
theorem dX2_init_21 : decode cX2_init 21 = .ok (.putfield 13, 3) := by decide +kernel
theorem dX2_init_24 : decode cX2_init 24 = .ok (.aload_n 0, 1) := by decide +kernel
theorem dX2_init_25 : decode cX2_init 25 = .ok (.new 17, 3) := by decide +kernel
theorem dX2_init_28 : decode cX2_init 28 = .ok (.dup, 1) := by decide +kernel
theorem dX2_init_29 : decode cX2_init 29 = .ok (.iload 4, 2) := by decide +kernel
theorem dX2_init_31 : decode cX2_init 31 = .ok (.aload_n 0, 1) := by decide +kernel
theorem dX2_init_32 : decode cX2_init 32 = .ok (.getfield 13, 3) := by decide +kernel
theorem dX2_init_35 : decode cX2_init 35 = .ok (.invokespecial 19, 3) := by decide +kernel
theorem dX2_init_38 : decode cX2_init 38 = .ok (.putfield 22, 3) := by decide +kernel
theorem dX2_init_41 : decode cX2_init 41 = .ok (.aload_n 0, 1) := by decide +kernel
theorem dX2_init_42 : decode cX2_init 42 = .ok (.aload_n 0, 1) := by decide +kernel
theorem dX2_init_43 : decode cX2_init 43 = .ok (.getfield 22, 3) := by decide +kernel
theorem dX2_init_46 : decode cX2_init 46 = .ok (.getfield 26, 3) := by decide +kernel
theorem dX2_init_49 : decode cX2_init 49 = .ok (.putfield 30, 3) := by decide +kernel
theorem dX2_init_52 : decode cX2_init 52 = .ok (.aload_n 0, 1) := by decide +kernel
theorem dX2_init_53 : decode cX2_init 53 = .ok (.aload_n 0, 1) := by decide +kernel
theorem dX2_init_54 : decode cX2_init 54 = .ok (.getfield 22, 3) := by decide +kernel
theorem dX2_init_57 : decode cX2_init 57 = .ok (.getfield 31, 3) := by decide +kernel
theorem dX2_init_60 : decode cX2_init 60 = .ok (.putfield 34, 3) := by decide +kernel
theorem dX2_init_63 : decode cX2_init 63 = .ok (.aload_n 0, 1) := by decide +kernel
theorem dX2_init_64 : decode cX2_init 64 = .ok (.iload_n 3, 1) := by decide +kernel
theorem dX2_init_65 : decode cX2_init 65 = .ok (.bipush 64, 2) := by decide +kernel
theorem dX2_init_67 : decode cX2_init 67 = .ok (.invokestatic 9, 3) := by decide +kernel
theorem dX2_init_70 : decode cX2_init 70 = .ok (.newarray .int, 2) := by decide +kernel
theorem dX2_init_72 : decode cX2_init 72 = .ok (.putfield 35, 3) := by decide +kernel
theorem dX2_init_75 : decode cX2_init 75 = .ok (.aload_n 0, 1) := by decide +kernel
theorem dX2_init_76 : decode cX2_init 76 = .ok (.iload 4, 2) := by decide +kernel
theorem dX2_init_78 : decode cX2_init 78 = .ok (.newarray .int, 2) := by decide +kernel
theorem dX2_init_80 : decode cX2_init 80 = .ok (.putfield 38, 3) := by decide +kernel
theorem dX2_init_83 : decode cX2_init 83 = .ok (.aload_n 0, 1) := by decide +kernel
theorem dX2_init_84 : decode cX2_init 84 = .ok (.iload 4, 2) := by decide +kernel
theorem dX2_init_86 : decode cX2_init 86 = .ok (.newarray .int, 2) := by decide +kernel
theorem dX2_init_88 : decode cX2_init 88 = .ok (.putfield 41, 3) := by decide +kernel
theorem dX2_init_91 : decode cX2_init 91 = .ok (.return_, 1) := by decide +kernel
set_option maxRecDepth 20000 in
theorem ggX2_feed_X2_isLetter : GoodIn wsX2_feed wsX2_isLetter := goodIn_r _ [8, 9, 15, 16, 17, 18, 19, 20, 21, 22, 23, 24, 25, 26] (by decide +kernel) (by decide +kernel)
set_option maxRecDepth 20000 in
theorem gX2_feed_X2_isLetter : GoodIn wsX2_feed (wsV RX2 44 RX2 yX2_isLetter wsX2_isLetter) := goodIn_app (goodIn_of _ (by decide +kernel)) ggX2_feed_X2_isLetter
set_option maxRecDepth 20000 in
theorem ggX2_feed_X2_forgetHits : GoodIn wsX2_feed wsX2_forgetHits := goodIn_r _ [13, 14, 15, 16, 17, 18, 19, 20, 21, 22, 23, 24, 25, 26] (by decide +kernel) (by decide +kernel)
set_option maxRecDepth 20000 in
theorem gX2_feed_X2_forgetHits : GoodIn wsX2_feed (wsV RX2 55 RX2 yX2_forgetHits wsX2_forgetHits) := goodIn_app (goodIn_of _ (by decide +kernel)) ggX2_feed_X2_forgetHits
theorem dX2_feed_0 : decode cX2_feed 0 = .ok (.aload_n 0, 1) := by decide +kernel
theorem dX2_feed_1 : decode cX2_feed 1 = .ok (.iload_n 1, 1) := by decide +kernel
theorem dX2_feed_2 : decode cX2_feed 2 = .ok (.invokevirtual 44, 3) := by decide +kernel
theorem dX2_feed_5 : decode cX2_feed 5 = .ok (.ifCond .eq 15, 3) := by decide +kernel
theorem dX2_feed_8 : decode cX2_feed 8 = .ok (.aload_n 0, 1) := by decide +kernel
theorem dX2_feed_9 : decode cX2_feed 9 = .ok (.getfield 48, 3) := by decide +kernel
theorem dX2_feed_12 : decode cX2_feed 12 = .ok (.aload_n 0, 1) := by decide +kernel
theorem dX2_feed_13 : decode cX2_feed 13 = .ok (.getfield 30, 3) := by decide +kernel
theorem dX2_feed_16 : decode cX2_feed 16 = .ok (.arraylength, 1) := by decide +kernel
theorem dX2_feed_17 : decode cX2_feed 17 = .ok (.if_icmp .lt 5, 3) := by decide +kernel
theorem dX2_feed_20 : decode cX2_feed 20 = .ok (.iconst 0, 1) := by decide +kernel
theorem dX2_feed_21 : decode cX2_feed 21 = .ok (.ireturn, 1) := by decide +kernel
theorem dX2_feed_22 : decode cX2_feed 22 = .ok (.aload_n 0, 1) := by decide +kernel
theorem dX2_feed_23 : decode cX2_feed 23 = .ok (.getfield 30, 3) := by decide +kernel
theorem dX2_feed_26 : decode cX2_feed 26 = .ok (.aload_n 0, 1) := by decide +kernel
theorem dX2_feed_27 : decode cX2_feed 27 = .ok (.getfield 48, 3) := by decide +kernel
theorem dX2_feed_30 : decode cX2_feed 30 = .ok (.iload_n 1, 1) := by decide +kernel
theorem dX2_feed_31 : decode cX2_feed 31 = .ok (.iastore, 1) := by decide +kernel
theorem dX2_feed_32 : decode cX2_feed 32 = .ok (.aload_n 0, 1) := by decide +kernel
theorem dX2_feed_33 : decode cX2_feed 33 = .ok (.dup, 1) := by decide +kernel
theorem dX2_feed_34 : decode cX2_feed 34 = .ok (.getfield 48, 3) := by decide +kernel
theorem dX2_feed_37 : decode cX2_feed 37 = .ok (.iconst 1, 1) := by decide +kernel
theorem dX2_feed_38 : decode cX2_feed 38 = .ok (.iadd, 1) := by decide +kernel
theorem dX2_feed_39 : decode cX2_feed 39 = .ok (.putfield 48, 3) := by decide +kernel
theorem dX2_feed_42 : decode cX2_feed 42 = .ok (.aload_n 0, 1) := by decide +kernel
theorem dX2_feed_43 : decode cX2_feed 43 = .ok (.iconst 0, 1) := by decide +kernel
