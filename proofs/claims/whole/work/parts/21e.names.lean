theorem dX2_measureNeighbours_67 : decode cX2_measureNeighbours 67 = .ok (.return_, 1) := by decide +kernel
set_option maxRecDepth 20000 in
theorem ggX2_alikeFrom_X2_at : GoodIn wsX2_alikeFrom wsX2_at := goodIn_r _ [10] (by decide +kernel) (by decide +kernel)
set_option maxRecDepth 20000 in
theorem gX2_alikeFrom_X2_at : GoodIn wsX2_alikeFrom (va_wsS RX2 95 yX2_at wsX2_at) := goodIn_app (goodIn_of _ (by decide +kernel)) ggX2_alikeFrom_X2_at
theorem dX2_alikeFrom_0 : decode cX2_alikeFrom 0 = .ok (.aload_n 0, 1) := by decide +kernel
theorem dX2_alikeFrom_1 : decode cX2_alikeFrom 1 = .ok (.getfield 48, 3) := by decide +kernel
theorem dX2_alikeFrom_4 : decode cX2_alikeFrom 4 = .ok (.iload_n 1, 1) := by decide +kernel
theorem dX2_alikeFrom_5 : decode cX2_alikeFrom 5 = .ok (.iload_n 2, 1) := by decide +kernel
theorem dX2_alikeFrom_6 : decode cX2_alikeFrom 6 = .ok (.invokestatic 114, 3) := by decide +kernel
theorem dX2_alikeFrom_9 : decode cX2_alikeFrom 9 = .ok (.isub, 1) := by decide +kernel
theorem dX2_alikeFrom_10 : decode cX2_alikeFrom 10 = .ok (.istore 4, 2) := by decide +kernel
theorem dX2_alikeFrom_12 : decode cX2_alikeFrom 12 = .ok (.iload_n 3, 1) := by decide +kernel
theorem dX2_alikeFrom_13 : decode cX2_alikeFrom 13 = .ok (.istore 5, 2) := by decide +kernel
theorem dX2_alikeFrom_15 : decode cX2_alikeFrom 15 = .ok (.iload 5, 2) := by decide +kernel
theorem dX2_alikeFrom_17 : decode cX2_alikeFrom 17 = .ok (.iload 4, 2) := by decide +kernel
theorem dX2_alikeFrom_19 : decode cX2_alikeFrom 19 = .ok (.if_icmp .ge 34, 3) := by decide +kernel
theorem dX2_alikeFrom_22 : decode cX2_alikeFrom 22 = .ok (.aload_n 0, 1) := by decide +kernel
theorem dX2_alikeFrom_23 : decode cX2_alikeFrom 23 = .ok (.getfield 30, 3) := by decide +kernel
theorem dX2_alikeFrom_26 : decode cX2_alikeFrom 26 = .ok (.iload_n 1, 1) := by decide +kernel
theorem dX2_alikeFrom_27 : decode cX2_alikeFrom 27 = .ok (.iload 5, 2) := by decide +kernel
theorem dX2_alikeFrom_29 : decode cX2_alikeFrom 29 = .ok (.iadd, 1) := by decide +kernel
theorem dX2_alikeFrom_30 : decode cX2_alikeFrom 30 = .ok (.invokestatic 95, 3) := by decide +kernel
theorem dX2_alikeFrom_33 : decode cX2_alikeFrom 33 = .ok (.aload_n 0, 1) := by decide +kernel
theorem dX2_alikeFrom_34 : decode cX2_alikeFrom 34 = .ok (.getfield 30, 3) := by decide +kernel
theorem dX2_alikeFrom_37 : decode cX2_alikeFrom 37 = .ok (.iload_n 2, 1) := by decide +kernel
theorem dX2_alikeFrom_38 : decode cX2_alikeFrom 38 = .ok (.iload 5, 2) := by decide +kernel
theorem dX2_alikeFrom_40 : decode cX2_alikeFrom 40 = .ok (.iadd, 1) := by decide +kernel
theorem dX2_alikeFrom_41 : decode cX2_alikeFrom 41 = .ok (.invokestatic 95, 3) := by decide +kernel
theorem dX2_alikeFrom_44 : decode cX2_alikeFrom 44 = .ok (.if_icmp .ne 9, 3) := by decide +kernel
theorem dX2_alikeFrom_47 : decode cX2_alikeFrom 47 = .ok (.iinc 5 1, 3) := by decide +kernel
theorem dX2_alikeFrom_50 : decode cX2_alikeFrom 50 = .ok (.goto (-35), 3) := by decide +kernel
theorem dX2_alikeFrom_53 : decode cX2_alikeFrom 53 = .ok (.iload 5, 2) := by decide +kernel
theorem dX2_alikeFrom_55 : decode cX2_alikeFrom 55 = .ok (.ireturn, 1) := by decide +kernel
set_option maxRecDepth 20000 in
theorem ggX2_firstEndFrom_X2_at : GoodIn wsX2_firstEndFrom wsX2_at := goodIn_r _ [6] (by decide +kernel) (by decide +kernel)
set_option maxRecDepth 20000 in
theorem gX2_firstEndFrom_X2_at : GoodIn wsX2_firstEndFrom (va_wsS RX2 95 yX2_at wsX2_at) := goodIn_app (goodIn_of _ (by decide +kernel)) ggX2_firstEndFrom_X2_at
set_option maxRecDepth 20000 in
theorem ggX2_firstEndFrom_X2_compareWithPattern : GoodIn wsX2_firstEndFrom wsX2_compareWithPattern := goodIn_r _ [10, 11, 1, 12, 13, 3, 4, 5, 6, 14, 15, 16, 17, 18, 19, 20, 21, 22, 23, 24, 25] (by decide +kernel) (by decide +kernel)
set_option maxRecDepth 20000 in
theorem gX2_firstEndFrom_X2_compareWithPattern : GoodIn wsX2_firstEndFrom (wsV RX2 121 RX2 yX2_compareWithPattern wsX2_compareWithPattern) := goodIn_app (goodIn_of _ (by decide +kernel)) ggX2_firstEndFrom_X2_compareWithPattern
theorem dX2_firstEndFrom_0 : decode cX2_firstEndFrom 0 = .ok (.iconst 0, 1) := by decide +kernel
theorem dX2_firstEndFrom_1 : decode cX2_firstEndFrom 1 = .ok (.istore_n 2, 1) := by decide +kernel
theorem dX2_firstEndFrom_2 : decode cX2_firstEndFrom 2 = .ok (.aload_n 0, 1) := by decide +kernel
theorem dX2_firstEndFrom_3 : decode cX2_firstEndFrom 3 = .ok (.getfield 48, 3) := by decide +kernel
theorem dX2_firstEndFrom_6 : decode cX2_firstEndFrom 6 = .ok (.istore_n 3, 1) := by decide +kernel
theorem dX2_firstEndFrom_7 : decode cX2_firstEndFrom 7 = .ok (.iload_n 2, 1) := by decide +kernel
theorem dX2_firstEndFrom_8 : decode cX2_firstEndFrom 8 = .ok (.iload_n 3, 1) := by decide +kernel
theorem dX2_firstEndFrom_9 : decode cX2_firstEndFrom 9 = .ok (.if_icmp .ge 41, 3) := by decide +kernel
theorem dX2_firstEndFrom_12 : decode cX2_firstEndFrom 12 = .ok (.iload_n 2, 1) := by decide +kernel
theorem dX2_firstEndFrom_13 : decode cX2_firstEndFrom 13 = .ok (.iload_n 3, 1) := by decide +kernel
theorem dX2_firstEndFrom_14 : decode cX2_firstEndFrom 14 = .ok (.iadd, 1) := by decide +kernel
theorem dX2_firstEndFrom_15 : decode cX2_firstEndFrom 15 = .ok (.iconst 1, 1) := by decide +kernel
theorem dX2_firstEndFrom_16 : decode cX2_firstEndFrom 16 = .ok (.iushr, 1) := by decide +kernel
theorem dX2_firstEndFrom_17 : decode cX2_firstEndFrom 17 = .ok (.istore 4, 2) := by decide +kernel
theorem dX2_firstEndFrom_19 : decode cX2_firstEndFrom 19 = .ok (.aload_n 0, 1) := by decide +kernel
theorem dX2_firstEndFrom_20 : decode cX2_firstEndFrom 20 = .ok (.aload_n 0, 1) := by decide +kernel
theorem dX2_firstEndFrom_21 : decode cX2_firstEndFrom 21 = .ok (.getfield 34, 3) := by decide +kernel
theorem dX2_firstEndFrom_24 : decode cX2_firstEndFrom 24 = .ok (.iload 4, 2) := by decide +kernel
theorem dX2_firstEndFrom_26 : decode cX2_firstEndFrom 26 = .ok (.invokestatic 95, 3) := by decide +kernel
theorem dX2_firstEndFrom_29 : decode cX2_firstEndFrom 29 = .ok (.invokevirtual 121, 3) := by decide +kernel
theorem dX2_firstEndFrom_32 : decode cX2_firstEndFrom 32 = .ok (.iload_n 1, 1) := by decide +kernel
theorem dX2_firstEndFrom_33 : decode cX2_firstEndFrom 33 = .ok (.if_icmp .ge 11, 3) := by decide +kernel
theorem dX2_firstEndFrom_36 : decode cX2_firstEndFrom 36 = .ok (.iload 4, 2) := by decide +kernel
theorem dX2_firstEndFrom_38 : decode cX2_firstEndFrom 38 = .ok (.iconst 1, 1) := by decide +kernel
theorem dX2_firstEndFrom_39 : decode cX2_firstEndFrom 39 = .ok (.iadd, 1) := by decide +kernel
theorem dX2_firstEndFrom_40 : decode cX2_firstEndFrom 40 = .ok (.istore_n 2, 1) := by decide +kernel
theorem dX2_firstEndFrom_41 : decode cX2_firstEndFrom 41 = .ok (.goto 6, 3) := by decide +kernel
theorem dX2_firstEndFrom_44 : decode cX2_firstEndFrom 44 = .ok (.iload 4, 2) := by decide +kernel
theorem dX2_firstEndFrom_46 : decode cX2_firstEndFrom 46 = .ok (.istore_n 3, 1) := by decide +kernel
theorem dX2_firstEndFrom_47 : decode cX2_firstEndFrom 47 = .ok (.goto (-40), 3) := by decide +kernel
theorem dX2_firstEndFrom_50 : decode cX2_firstEndFrom 50 = .ok (.iload_n 2, 1) := by decide +kernel
theorem dX2_firstEndFrom_51 : decode cX2_firstEndFrom 51 = .ok (.ireturn, 1) := by decide +kernel
set_option maxRecDepth 20000 in
theorem ggX2_compareWithPattern_X2_at : GoodIn wsX2_compareWithPattern wsX2_at := goodIn_r _ [8] (by decide +kernel) (by decide +kernel)
set_option maxRecDepth 20000 in
theorem gX2_compareWithPattern_X2_at : GoodIn wsX2_compareWithPattern (va_wsS RX2 95 yX2_at wsX2_at) := goodIn_app (goodIn_of _ (by decide +kernel)) ggX2_compareWithPattern_X2_at
theorem dX2_compareWithPattern_0 : decode cX2_compareWithPattern 0 = .ok (.iconst 0, 1) := by decide +kernel
theorem dX2_compareWithPattern_1 : decode cX2_compareWithPattern 1 = .ok (.istore_n 2, 1) := by decide +kernel
theorem dX2_compareWithPattern_2 : decode cX2_compareWithPattern 2 = .ok (.iload_n 2, 1) := by decide +kernel
theorem dX2_compareWithPattern_3 : decode cX2_compareWithPattern 3 = .ok (.aload_n 0, 1) := by decide +kernel
theorem dX2_compareWithPattern_4 : decode cX2_compareWithPattern 4 = .ok (.getfield 82, 3) := by decide +kernel
theorem dX2_compareWithPattern_7 : decode cX2_compareWithPattern 7 = .ok (.if_icmp .ge 45, 3) := by decide +kernel
theorem dX2_compareWithPattern_10 : decode cX2_compareWithPattern 10 = .ok (.iload_n 1, 1) := by decide +kernel
theorem dX2_compareWithPattern_11 : decode cX2_compareWithPattern 11 = .ok (.iload_n 2, 1) := by decide +kernel
theorem dX2_compareWithPattern_12 : decode cX2_compareWithPattern 12 = .ok (.iadd, 1) := by decide +kernel
theorem dX2_compareWithPattern_13 : decode cX2_compareWithPattern 13 = .ok (.aload_n 0, 1) := by decide +kernel
theorem dX2_compareWithPattern_14 : decode cX2_compareWithPattern 14 = .ok (.getfield 48, 3) := by decide +kernel
theorem dX2_compareWithPattern_17 : decode cX2_compareWithPattern 17 = .ok (.if_icmp .lt 5, 3) := by decide +kernel
theorem dX2_compareWithPattern_20 : decode cX2_compareWithPattern 20 = .ok (.iconst (-1), 1) := by decide +kernel
theorem dX2_compareWithPattern_21 : decode cX2_compareWithPattern 21 = .ok (.ireturn, 1) := by decide +kernel
theorem dX2_compareWithPattern_22 : decode cX2_compareWithPattern 22 = .ok (.aload_n 0, 1) := by decide +kernel
theorem dX2_compareWithPattern_23 : decode cX2_compareWithPattern 23 = .ok (.getfield 30, 3) := by decide +kernel
theorem dX2_compareWithPattern_26 : decode cX2_compareWithPattern 26 = .ok (.iload_n 1, 1) := by decide +kernel
theorem dX2_compareWithPattern_27 : decode cX2_compareWithPattern 27 = .ok (.iload_n 2, 1) := by decide +kernel
theorem dX2_compareWithPattern_28 : decode cX2_compareWithPattern 28 = .ok (.iadd, 1) := by decide +kernel
theorem dX2_compareWithPattern_29 : decode cX2_compareWithPattern 29 = .ok (.invokestatic 95, 3) := by decide +kernel
theorem dX2_compareWithPattern_32 : decode cX2_compareWithPattern 32 = .ok (.aload_n 0, 1) := by decide +kernel
theorem dX2_compareWithPattern_33 : decode cX2_compareWithPattern 33 = .ok (.getfield 35, 3) := by decide +kernel
theorem dX2_compareWithPattern_36 : decode cX2_compareWithPattern 36 = .ok (.iload_n 2, 1) := by decide +kernel
theorem dX2_compareWithPattern_37 : decode cX2_compareWithPattern 37 = .ok (.iaload, 1) := by decide +kernel
theorem dX2_compareWithPattern_38 : decode cX2_compareWithPattern 38 = .ok (.isub, 1) := by decide +kernel
theorem dX2_compareWithPattern_39 : decode cX2_compareWithPattern 39 = .ok (.istore_n 3, 1) := by decide +kernel
theorem dX2_compareWithPattern_40 : decode cX2_compareWithPattern 40 = .ok (.iload_n 3, 1) := by decide +kernel
theorem dX2_compareWithPattern_41 : decode cX2_compareWithPattern 41 = .ok (.ifCond .eq 5, 3) := by decide +kernel
theorem dX2_compareWithPattern_44 : decode cX2_compareWithPattern 44 = .ok (.iload_n 3, 1) := by decide +kernel
theorem dX2_compareWithPattern_45 : decode cX2_compareWithPattern 45 = .ok (.ireturn, 1) := by decide +kernel
theorem dX2_compareWithPattern_46 : decode cX2_compareWithPattern 46 = .ok (.iinc 2 1, 3) := by decide +kernel
theorem dX2_compareWithPattern_49 : decode cX2_compareWithPattern 49 = .ok (.goto (-47), 3) := by decide +kernel
theorem dX2_compareWithPattern_52 : decode cX2_compareWithPattern 52 = .ok (.iconst 0, 1) := by decide +kernel
theorem dX2_compareWithPattern_53 : decode cX2_compareWithPattern 53 = .ok (.ireturn, 1) := by decide +kernel
theorem dX2_longestAlike_0 : decode cX2_longestAlike 0 = .ok (.iconst 0, 1) := by decide +kernel
theorem dX2_longestAlike_1 : decode cX2_longestAlike 1 = .ok (.istore_n 1, 1) := by decide +kernel
theorem dX2_longestAlike_2 : decode cX2_longestAlike 2 = .ok (.iconst 1, 1) := by decide +kernel
theorem dX2_longestAlike_3 : decode cX2_longestAlike 3 = .ok (.istore_n 2, 1) := by decide +kernel
theorem dX2_longestAlike_4 : decode cX2_longestAlike 4 = .ok (.iload_n 2, 1) := by decide +kernel
theorem dX2_longestAlike_5 : decode cX2_longestAlike 5 = .ok (.aload_n 0, 1) := by decide +kernel
theorem dX2_longestAlike_6 : decode cX2_longestAlike 6 = .ok (.getfield 48, 3) := by decide +kernel
theorem dX2_longestAlike_9 : decode cX2_longestAlike 9 = .ok (.if_icmp .ge 20, 3) := by decide +kernel
theorem dX2_longestAlike_12 : decode cX2_longestAlike 12 = .ok (.iload_n 1, 1) := by decide +kernel
theorem dX2_longestAlike_13 : decode cX2_longestAlike 13 = .ok (.aload_n 0, 1) := by decide +kernel
theorem dX2_longestAlike_14 : decode cX2_longestAlike 14 = .ok (.getfield 41, 3) := by decide +kernel
theorem dX2_longestAlike_17 : decode cX2_longestAlike 17 = .ok (.iload_n 2, 1) := by decide +kernel
theorem dX2_longestAlike_18 : decode cX2_longestAlike 18 = .ok (.iaload, 1) := by decide +kernel
theorem dX2_longestAlike_19 : decode cX2_longestAlike 19 = .ok (.invokestatic 114, 3) := by decide +kernel
theorem dX2_longestAlike_22 : decode cX2_longestAlike 22 = .ok (.istore_n 1, 1) := by decide +kernel
theorem dX2_longestAlike_23 : decode cX2_longestAlike 23 = .ok (.iinc 2 1, 3) := by decide +kernel
theorem dX2_longestAlike_26 : decode cX2_longestAlike 26 = .ok (.goto (-22), 3) := by decide +kernel
theorem dX2_longestAlike_29 : decode cX2_longestAlike 29 = .ok (.iload_n 1, 1) := by decide +kernel
theorem dX2_longestAlike_30 : decode cX2_longestAlike 30 = .ok (.ireturn, 1) := by decide +kernel
set_option maxRecDepth 20000 in
theorem ggX2_leastPlaceOf_X2_at : GoodIn wsX2_leastPlaceOf wsX2_at := goodIn_r _ [11] (by decide +kernel) (by decide +kernel)
set_option maxRecDepth 20000 in
theorem gX2_leastPlaceOf_X2_at : GoodIn wsX2_leastPlaceOf (va_wsS RX2 95 yX2_at wsX2_at) := goodIn_app (goodIn_of _ (by decide +kernel)) ggX2_leastPlaceOf_X2_at
theorem dX2_leastPlaceOf_0 : decode cX2_leastPlaceOf 0 = .ok (.iconst 1, 1) := by decide +kernel
theorem dX2_leastPlaceOf_1 : decode cX2_leastPlaceOf 1 = .ok (.istore_n 2, 1) := by decide +kernel
theorem dX2_leastPlaceOf_2 : decode cX2_leastPlaceOf 2 = .ok (.iload_n 2, 1) := by decide +kernel
theorem dX2_leastPlaceOf_3 : decode cX2_leastPlaceOf 3 = .ok (.aload_n 0, 1) := by decide +kernel
theorem dX2_leastPlaceOf_4 : decode cX2_leastPlaceOf 4 = .ok (.getfield 48, 3) := by decide +kernel
theorem dX2_leastPlaceOf_7 : decode cX2_leastPlaceOf 7 = .ok (.if_icmp .ge 19, 3) := by decide +kernel
theorem dX2_leastPlaceOf_10 : decode cX2_leastPlaceOf 10 = .ok (.aload_n 0, 1) := by decide +kernel
theorem dX2_leastPlaceOf_11 : decode cX2_leastPlaceOf 11 = .ok (.getfield 41, 3) := by decide +kernel
theorem dX2_leastPlaceOf_14 : decode cX2_leastPlaceOf 14 = .ok (.iload_n 2, 1) := by decide +kernel
theorem dX2_leastPlaceOf_15 : decode cX2_leastPlaceOf 15 = .ok (.iaload, 1) := by decide +kernel
theorem dX2_leastPlaceOf_16 : decode cX2_leastPlaceOf 16 = .ok (.iload_n 1, 1) := by decide +kernel
theorem dX2_leastPlaceOf_17 : decode cX2_leastPlaceOf 17 = .ok (.if_icmp .eq 9, 3) := by decide +kernel
theorem dX2_leastPlaceOf_20 : decode cX2_leastPlaceOf 20 = .ok (.iinc 2 1, 3) := by decide +kernel
theorem dX2_leastPlaceOf_23 : decode cX2_leastPlaceOf 23 = .ok (.goto (-21), 3) := by decide +kernel
theorem dX2_leastPlaceOf_26 : decode cX2_leastPlaceOf 26 = .ok (.aload_n 0, 1) := by decide +kernel
theorem dX2_leastPlaceOf_27 : decode cX2_leastPlaceOf 27 = .ok (.getfield 34, 3) := by decide +kernel
theorem dX2_leastPlaceOf_30 : decode cX2_leastPlaceOf 30 = .ok (.iload_n 2, 1) := by decide +kernel
theorem dX2_leastPlaceOf_31 : decode cX2_leastPlaceOf 31 = .ok (.iconst 1, 1) := by decide +kernel
theorem dX2_leastPlaceOf_32 : decode cX2_leastPlaceOf 32 = .ok (.isub, 1) := by decide +kernel
theorem dX2_leastPlaceOf_33 : decode cX2_leastPlaceOf 33 = .ok (.invokestatic 95, 3) := by decide +kernel
theorem dX2_leastPlaceOf_36 : decode cX2_leastPlaceOf 36 = .ok (.istore_n 3, 1) := by decide +kernel
theorem dX2_leastPlaceOf_37 : decode cX2_leastPlaceOf 37 = .ok (.iload_n 2, 1) := by decide +kernel
theorem dX2_leastPlaceOf_38 : decode cX2_leastPlaceOf 38 = .ok (.aload_n 0, 1) := by decide +kernel
theorem dX2_leastPlaceOf_39 : decode cX2_leastPlaceOf 39 = .ok (.getfield 48, 3) := by decide +kernel
theorem dX2_leastPlaceOf_42 : decode cX2_leastPlaceOf 42 = .ok (.if_icmp .ge 30, 3) := by decide +kernel
theorem dX2_leastPlaceOf_45 : decode cX2_leastPlaceOf 45 = .ok (.aload_n 0, 1) := by decide +kernel
theorem dX2_leastPlaceOf_46 : decode cX2_leastPlaceOf 46 = .ok (.getfield 41, 3) := by decide +kernel
theorem dX2_leastPlaceOf_49 : decode cX2_leastPlaceOf 49 = .ok (.iload_n 2, 1) := by decide +kernel
theorem dX2_leastPlaceOf_50 : decode cX2_leastPlaceOf 50 = .ok (.iaload, 1) := by decide +kernel
theorem dX2_leastPlaceOf_51 : decode cX2_leastPlaceOf 51 = .ok (.iload_n 1, 1) := by decide +kernel
theorem dX2_leastPlaceOf_52 : decode cX2_leastPlaceOf 52 = .ok (.if_icmp .ne 20, 3) := by decide +kernel
theorem dX2_leastPlaceOf_55 : decode cX2_leastPlaceOf 55 = .ok (.iload_n 3, 1) := by decide +kernel
theorem dX2_leastPlaceOf_56 : decode cX2_leastPlaceOf 56 = .ok (.aload_n 0, 1) := by decide +kernel
theorem dX2_leastPlaceOf_57 : decode cX2_leastPlaceOf 57 = .ok (.getfield 34, 3) := by decide +kernel
theorem dX2_leastPlaceOf_60 : decode cX2_leastPlaceOf 60 = .ok (.iload_n 2, 1) := by decide +kernel
theorem dX2_leastPlaceOf_61 : decode cX2_leastPlaceOf 61 = .ok (.iaload, 1) := by decide +kernel
theorem dX2_leastPlaceOf_62 : decode cX2_leastPlaceOf 62 = .ok (.invokestatic 109, 3) := by decide +kernel
theorem dX2_leastPlaceOf_65 : decode cX2_leastPlaceOf 65 = .ok (.istore_n 3, 1) := by decide +kernel
theorem dX2_leastPlaceOf_66 : decode cX2_leastPlaceOf 66 = .ok (.iinc 2 1, 3) := by decide +kernel
theorem dX2_leastPlaceOf_69 : decode cX2_leastPlaceOf 69 = .ok (.goto (-32), 3) := by decide +kernel
theorem dX2_leastPlaceOf_72 : decode cX2_leastPlaceOf 72 = .ok (.iload_n 3, 1) := by decide +kernel
theorem dX2_leastPlaceOf_73 : decode cX2_leastPlaceOf 73 = .ok (.ireturn, 1) := by decide +kernel
theorem dX3_init_0 : decode cX3_init 0 = .ok (.aload_n 0, 1) := by decide +kernel
theorem dX3_init_1 : decode cX3_init 1 = .ok (.invokespecial 1, 3) := by decide +kernel
theorem dX3_init_4 : decode cX3_init 4 = .ok (.aload_n 0, 1) := by decide +kernel
theorem dX3_init_5 : decode cX3_init 5 = .ok (.sipush 1000, 3) := by decide +kernel
theorem dX3_init_8 : decode cX3_init 8 = .ok (.newarray .int, 2) := by decide +kernel
theorem dX3_init_10 : decode cX3_init 10 = .ok (.putfield 7, 3) := by decide +kernel
theorem dX3_init_13 : decode cX3_init 13 = .ok (.aload_n 0, 1) := by decide +kernel
theorem dX3_init_14 : decode cX3_init 14 = .ok (.sipush 1000, 3) := by decide +kernel
theorem dX3_init_17 : decode cX3_init 17 = .ok (.newarray .int, 2) := by decide +kernel
theorem dX3_init_19 : decode cX3_init 19 = .ok (.putfield 13, 3) := by decide +kernel
theorem dX3_init_22 : decode cX3_init 22 = .ok (.aload_n 0, 1) := by decide +kernel
theorem dX3_init_23 : decode cX3_init 23 = .ok (.sipush 1000, 3) := by decide +kernel
theorem dX3_init_26 : decode cX3_init 26 = .ok (.newarray .int, 2) := by decide +kernel
theorem dX3_init_28 : decode cX3_init 28 = .ok (.putfield 16, 3) := by decide +kernel
theorem dX3_init_31 : decode cX3_init 31 = .ok (.aload_n 0, 1) := by decide +kernel
theorem dX3_init_32 : decode cX3_init 32 = .ok (.bipush 64, 2) := by decide +kernel
theorem dX3_init_34 : decode cX3_init 34 = .ok (.newarray .int, 2) := by decide +kernel
theorem dX3_init_36 : decode cX3_init 36 = .ok (.putfield 19, 3) := by decide +kernel
theorem dX3_init_39 : decode cX3_init 39 = .ok (.aload_n 0, 1) := by decide +kernel
theorem dX3_init_40 : decode cX3_init 40 = .ok (.iload_n 1, 1) := by decide +kernel
theorem dX3_init_41 : decode cX3_init 41 = .ok (.iconst 1, 1) := by decide +kernel
theorem dX3_init_42 : decode cX3_init 42 = .ok (.if_icmp .ge 7, 3) := by decide +kernel
theorem dX3_init_45 : decode cX3_init 45 = .ok (.iconst 1, 1) := by decide +kernel
theorem dX3_init_46 : decode cX3_init 46 = .ok (.goto 17, 3) := by decide +kernel
theorem dX3_init_49 : decode cX3_init 49 = .ok (.iload_n 1, 1) := by decide +kernel
theorem dX3_init_50 : decode cX3_init 50 = .ok (.sipush 1000, 3) := by decide +kernel
theorem dX3_init_53 : decode cX3_init 53 = .ok (.if_icmp .le 9, 3) := by decide +kernel
theorem dX3_init_56 : decode cX3_init 56 = .ok (.sipush 1000, 3) := by decide +kernel
theorem dX3_init_59 : decode cX3_init 59 = .ok (.goto 4, 3) := by decide +kernel
theorem dX3_init_62 : decode cX3_init 62 = .ok (.iload_n 1, 1) := by decide +kernel
theorem dX3_init_63 : decode cX3_init 63 = .ok (.putfield 22, 3) := by decide +kernel
theorem dX3_init_66 : decode cX3_init 66 = .ok (.aload_n 0, 1) := by decide +kernel
theorem dX3_init_67 : decode cX3_init 67 = .ok (.iload_n 2, 1) := by decide +kernel
theorem dX3_init_68 : decode cX3_init 68 = .ok (.iconst 1, 1) := by decide +kernel
theorem dX3_init_69 : decode cX3_init 69 = .ok (.if_icmp .ge 7, 3) := by decide +kernel
theorem dX3_init_72 : decode cX3_init 72 = .ok (.iconst 1, 1) := by decide +kernel
theorem dX3_init_73 : decode cX3_init 73 = .ok (.goto 17, 3) := by decide +kernel
theorem dX3_init_76 : decode cX3_init 76 = .ok (.iload_n 2, 1) := by decide +kernel
theorem dX3_init_77 : decode cX3_init 77 = .ok (.sipush 256, 3) := by decide +kernel
theorem dX3_init_80 : decode cX3_init 80 = .ok (.if_icmp .le 9, 3) := by decide +kernel
theorem dX3_init_83 : decode cX3_init 83 = .ok (.sipush 256, 3) := by decide +kernel
theorem dX3_init_86 : decode cX3_init 86 = .ok (.goto 4, 3) := by decide +kernel
theorem dX3_init_89 : decode cX3_init 89 = .ok (.iload_n 2, 1) := by decide +kernel
theorem dX3_init_90 : decode cX3_init 90 = .ok (.putfield 26, 3) := by decide +kernel
theorem dX3_init_93 : decode cX3_init 93 = .ok (.aload_n 0, 1) := by decide +kernel
theorem dX3_init_94 : decode cX3_init 94 = .ok (.iload_n 3, 1) := by decide +kernel
theorem dX3_init_95 : decode cX3_init 95 = .ok (.iconst 1, 1) := by decide +kernel
theorem dX3_init_96 : decode cX3_init 96 = .ok (.if_icmp .ge 7, 3) := by decide +kernel
theorem dX3_init_99 : decode cX3_init 99 = .ok (.iconst 1, 1) := by decide +kernel
theorem dX3_init_100 : decode cX3_init 100 = .ok (.goto 15, 3) := by decide +kernel
theorem dX3_init_103 : decode cX3_init 103 = .ok (.iload_n 3, 1) := by decide +kernel
theorem dX3_init_104 : decode cX3_init 104 = .ok (.bipush 64, 2) := by decide +kernel
theorem dX3_init_106 : decode cX3_init 106 = .ok (.if_icmp .le 8, 3) := by decide +kernel
theorem dX3_init_109 : decode cX3_init 109 = .ok (.bipush 64, 2) := by decide +kernel
theorem dX3_init_111 : decode cX3_init 111 = .ok (.goto 4, 3) := by decide +kernel
theorem dX3_init_114 : decode cX3_init 114 = .ok (.iload_n 3, 1) := by decide +kernel
theorem dX3_init_115 : decode cX3_init 115 = .ok (.putfield 29, 3) := by decide +kernel
theorem dX3_init_118 : decode cX3_init 118 = .ok (.return_, 1) := by decide +kernel
theorem dX3_feed_0 : decode cX3_feed 0 = .ok (.iload_n 1, 1) := by decide +kernel
theorem dX3_feed_1 : decode cX3_feed 1 = .ok (.ifCond .lt 22, 3) := by decide +kernel
theorem dX3_feed_4 : decode cX3_feed 4 = .ok (.iload_n 1, 1) := by decide +kernel
theorem dX3_feed_5 : decode cX3_feed 5 = .ok (.aload_n 0, 1) := by decide +kernel
theorem dX3_feed_6 : decode cX3_feed 6 = .ok (.getfield 26, 3) := by decide +kernel
theorem dX3_feed_9 : decode cX3_feed 9 = .ok (.if_icmp .ge 14, 3) := by decide +kernel
theorem dX3_feed_12 : decode cX3_feed 12 = .ok (.aload_n 0, 1) := by decide +kernel
theorem dX3_feed_13 : decode cX3_feed 13 = .ok (.getfield 32, 3) := by decide +kernel
theorem dX3_feed_16 : decode cX3_feed 16 = .ok (.aload_n 0, 1) := by decide +kernel
theorem dX3_feed_17 : decode cX3_feed 17 = .ok (.getfield 22, 3) := by decide +kernel
theorem dX3_feed_20 : decode cX3_feed 20 = .ok (.if_icmp .ne 5, 3) := by decide +kernel
theorem dX3_feed_23 : decode cX3_feed 23 = .ok (.iconst 0, 1) := by decide +kernel
theorem dX3_feed_24 : decode cX3_feed 24 = .ok (.ireturn, 1) := by decide +kernel
theorem dX3_feed_25 : decode cX3_feed 25 = .ok (.aload_n 0, 1) := by decide +kernel
theorem dX3_feed_26 : decode cX3_feed 26 = .ok (.getfield 7, 3) := by decide +kernel
theorem dX3_feed_29 : decode cX3_feed 29 = .ok (.aload_n 0, 1) := by decide +kernel
theorem dX3_feed_30 : decode cX3_feed 30 = .ok (.getfield 32, 3) := by decide +kernel
theorem dX3_feed_33 : decode cX3_feed 33 = .ok (.iload_n 1, 1) := by decide +kernel
theorem dX3_feed_34 : decode cX3_feed 34 = .ok (.iastore, 1) := by decide +kernel
theorem dX3_feed_35 : decode cX3_feed 35 = .ok (.aload_n 0, 1) := by decide +kernel
theorem dX3_feed_36 : decode cX3_feed 36 = .ok (.dup, 1) := by decide +kernel
theorem dX3_feed_37 : decode cX3_feed 37 = .ok (.getfield 32, 3) := by decide +kernel
theorem dX3_feed_40 : decode cX3_feed 40 = .ok (.iconst 1, 1) := by decide +kernel
theorem dX3_feed_41 : decode cX3_feed 41 = .ok (.iadd, 1) := by decide +kernel
theorem dX3_feed_42 : decode cX3_feed 42 = .ok (.putfield 32, 3) := by decide +kernel
theorem dX3_feed_45 : decode cX3_feed 45 = .ok (.aload_n 0, 1) := by decide +kernel
theorem dX3_feed_46 : decode cX3_feed 46 = .ok (.iconst 0, 1) := by decide +kernel
theorem dX3_feed_47 : decode cX3_feed 47 = .ok (.putfield 35, 3) := by decide +kernel
theorem dX3_feed_50 : decode cX3_feed 50 = .ok (.aload_n 0, 1) := by decide +kernel
theorem dX3_feed_51 : decode cX3_feed 51 = .ok (.iconst 0, 1) := by decide +kernel
theorem dX3_feed_52 : decode cX3_feed 52 = .ok (.putfield 39, 3) := by decide +kernel
theorem dX3_feed_55 : decode cX3_feed 55 = .ok (.iconst 1, 1) := by decide +kernel
theorem dX3_feed_56 : decode cX3_feed 56 = .ok (.ireturn, 1) := by decide +kernel
set_option maxRecDepth 20000 in
theorem ggX3_feedAll_X3_feed : GoodIn wsX3_feedAll wsX3_feed := goodIn_r _ [5, 6, 7, 8, 9, 10, 11, 12, 13, 14, 15, 16, 17, 18, 19, 20, 21, 22, 23, 24] (by decide +kernel) (by decide +kernel)
set_option maxRecDepth 20000 in
theorem gX3_feedAll_X3_feed : GoodIn wsX3_feedAll (wsV RX3 42 RX3 yX3_feed wsX3_feed) := goodIn_app (goodIn_of _ (by decide +kernel)) ggX3_feedAll_X3_feed
theorem dX3_feedAll_0 : decode cX3_feedAll 0 = .ok (.iconst 0, 1) := by decide +kernel
theorem dX3_feedAll_1 : decode cX3_feedAll 1 = .ok (.istore 6, 2) := by decide +kernel
theorem dX3_feedAll_3 : decode cX3_feedAll 3 = .ok (.iload 5, 2) := by decide +kernel
theorem dX3_feedAll_5 : decode cX3_feedAll 5 = .ok (.iconst 1, 1) := by decide +kernel
theorem dX3_feedAll_6 : decode cX3_feedAll 6 = .ok (.if_icmp .lt 14, 3) := by decide +kernel
theorem dX3_feedAll_9 : decode cX3_feedAll 9 = .ok (.iload 5, 2) := by decide +kernel
theorem dX3_feedAll_11 : decode cX3_feedAll 11 = .ok (.bipush 16, 2) := by decide +kernel
theorem dX3_feedAll_13 : decode cX3_feedAll 13 = .ok (.if_icmp .gt 7, 3) := by decide +kernel
theorem dX3_feedAll_16 : decode cX3_feedAll 16 = .ok (.iconst 1, 1) := by decide +kernel
theorem dX3_feedAll_17 : decode cX3_feedAll 17 = .ok (.goto 4, 3) := by decide +kernel
theorem dX3_feedAll_20 : decode cX3_feedAll 20 = .ok (.iconst 0, 1) := by decide +kernel
theorem dX3_feedAll_21 : decode cX3_feedAll 21 = .ok (.istore 7, 2) := by decide +kernel
theorem dX3_feedAll_23 : decode cX3_feedAll 23 = .ok (.iconst 0, 1) := by decide +kernel
theorem dX3_feedAll_24 : decode cX3_feedAll 24 = .ok (.istore 8, 2) := by decide +kernel
theorem dX3_feedAll_26 : decode cX3_feedAll 26 = .ok (.iload 8, 2) := by decide +kernel
theorem dX3_feedAll_28 : decode cX3_feedAll 28 = .ok (.iload 5, 2) := by decide +kernel
theorem dX3_feedAll_30 : decode cX3_feedAll 30 = .ok (.if_icmp .ge 89, 3) := by decide +kernel
theorem dX3_feedAll_33 : decode cX3_feedAll 33 = .ok (.iload 7, 2) := by decide +kernel
theorem dX3_feedAll_35 : decode cX3_feedAll 35 = .ok (.ifCond .eq 84, 3) := by decide +kernel
theorem dX3_feedAll_38 : decode cX3_feedAll 38 = .ok (.iload 8, 2) := by decide +kernel
theorem dX3_feedAll_40 : decode cX3_feedAll 40 = .ok (.iconst 4, 1) := by decide +kernel
theorem dX3_feedAll_41 : decode cX3_feedAll 41 = .ok (.if_icmp .ge 7, 3) := by decide +kernel
theorem dX3_feedAll_44 : decode cX3_feedAll 44 = .ok (.iload_n 1, 1) := by decide +kernel
theorem dX3_feedAll_45 : decode cX3_feedAll 45 = .ok (.goto 27, 3) := by decide +kernel
theorem dX3_feedAll_48 : decode cX3_feedAll 48 = .ok (.iload 8, 2) := by decide +kernel
theorem dX3_feedAll_50 : decode cX3_feedAll 50 = .ok (.bipush 8, 2) := by decide +kernel
theorem dX3_feedAll_52 : decode cX3_feedAll 52 = .ok (.if_icmp .ge 7, 3) := by decide +kernel
theorem dX3_feedAll_55 : decode cX3_feedAll 55 = .ok (.iload_n 2, 1) := by decide +kernel
theorem dX3_feedAll_56 : decode cX3_feedAll 56 = .ok (.goto 16, 3) := by decide +kernel
theorem dX3_feedAll_59 : decode cX3_feedAll 59 = .ok (.iload 8, 2) := by decide +kernel
theorem dX3_feedAll_61 : decode cX3_feedAll 61 = .ok (.bipush 12, 2) := by decide +kernel
theorem dX3_feedAll_63 : decode cX3_feedAll 63 = .ok (.if_icmp .ge 7, 3) := by decide +kernel
theorem dX3_feedAll_66 : decode cX3_feedAll 66 = .ok (.iload_n 3, 1) := by decide +kernel
theorem dX3_feedAll_67 : decode cX3_feedAll 67 = .ok (.goto 5, 3) := by decide +kernel
theorem dX3_feedAll_70 : decode cX3_feedAll 70 = .ok (.iload 4, 2) := by decide +kernel
theorem dX3_feedAll_72 : decode cX3_feedAll 72 = .ok (.istore 9, 2) := by decide +kernel
theorem dX3_feedAll_74 : decode cX3_feedAll 74 = .ok (.aload_n 0, 1) := by decide +kernel
theorem dX3_feedAll_75 : decode cX3_feedAll 75 = .ok (.iload 9, 2) := by decide +kernel
theorem dX3_feedAll_77 : decode cX3_feedAll 77 = .ok (.bipush 24, 2) := by decide +kernel
theorem dX3_feedAll_79 : decode cX3_feedAll 79 = .ok (.bipush 8, 2) := by decide +kernel
theorem dX3_feedAll_81 : decode cX3_feedAll 81 = .ok (.iload 8, 2) := by decide +kernel
theorem dX3_feedAll_83 : decode cX3_feedAll 83 = .ok (.iconst 4, 1) := by decide +kernel
theorem dX3_feedAll_84 : decode cX3_feedAll 84 = .ok (.irem, 1) := by decide +kernel
theorem dX3_feedAll_85 : decode cX3_feedAll 85 = .ok (.imul, 1) := by decide +kernel
theorem dX3_feedAll_86 : decode cX3_feedAll 86 = .ok (.isub, 1) := by decide +kernel
theorem dX3_feedAll_87 : decode cX3_feedAll 87 = .ok (.ishr, 1) := by decide +kernel
theorem dX3_feedAll_88 : decode cX3_feedAll 88 = .ok (.sipush 255, 3) := by decide +kernel
theorem dX3_feedAll_91 : decode cX3_feedAll 91 = .ok (.iand, 1) := by decide +kernel
theorem dX3_feedAll_92 : decode cX3_feedAll 92 = .ok (.invokevirtual 42, 3) := by decide +kernel
theorem dX3_feedAll_95 : decode cX3_feedAll 95 = .ok (.istore 7, 2) := by decide +kernel
theorem dX3_feedAll_97 : decode cX3_feedAll 97 = .ok (.iload 7, 2) := by decide +kernel
theorem dX3_feedAll_99 : decode cX3_feedAll 99 = .ok (.ifCond .eq 10, 3) := by decide +kernel
theorem dX3_feedAll_102 : decode cX3_feedAll 102 = .ok (.iload 6, 2) := by decide +kernel
theorem dX3_feedAll_104 : decode cX3_feedAll 104 = .ok (.iconst 1, 1) := by decide +kernel
theorem dX3_feedAll_105 : decode cX3_feedAll 105 = .ok (.iadd, 1) := by decide +kernel
theorem dX3_feedAll_106 : decode cX3_feedAll 106 = .ok (.goto 5, 3) := by decide +kernel
theorem dX3_feedAll_109 : decode cX3_feedAll 109 = .ok (.iload 6, 2) := by decide +kernel
theorem dX3_feedAll_111 : decode cX3_feedAll 111 = .ok (.istore 6, 2) := by decide +kernel
theorem dX3_feedAll_113 : decode cX3_feedAll 113 = .ok (.iinc 8 1, 3) := by decide +kernel
theorem dX3_feedAll_116 : decode cX3_feedAll 116 = .ok (.goto (-90), 3) := by decide +kernel
theorem dX3_feedAll_119 : decode cX3_feedAll 119 = .ok (.iload 6, 2) := by decide +kernel
theorem dX3_feedAll_121 : decode cX3_feedAll 121 = .ok (.ireturn, 1) := by decide +kernel
theorem dX3_commonOf_0 : decode cX3_commonOf 0 = .ok (.iconst 0, 1) := by decide +kernel
theorem dX3_commonOf_1 : decode cX3_commonOf 1 = .ok (.istore_n 3, 1) := by decide +kernel
theorem dX3_commonOf_2 : decode cX3_commonOf 2 = .ok (.iload_n 1, 1) := by decide +kernel
theorem dX3_commonOf_3 : decode cX3_commonOf 3 = .ok (.iload_n 3, 1) := by decide +kernel
theorem dX3_commonOf_4 : decode cX3_commonOf 4 = .ok (.iadd, 1) := by decide +kernel
theorem dX3_commonOf_5 : decode cX3_commonOf 5 = .ok (.aload_n 0, 1) := by decide +kernel
theorem dX3_commonOf_6 : decode cX3_commonOf 6 = .ok (.getfield 32, 3) := by decide +kernel
theorem dX3_commonOf_9 : decode cX3_commonOf 9 = .ok (.if_icmp .ge 38, 3) := by decide +kernel
theorem dX3_commonOf_12 : decode cX3_commonOf 12 = .ok (.iload_n 2, 1) := by decide +kernel
theorem dX3_commonOf_13 : decode cX3_commonOf 13 = .ok (.iload_n 3, 1) := by decide +kernel
theorem dX3_commonOf_14 : decode cX3_commonOf 14 = .ok (.iadd, 1) := by decide +kernel
theorem dX3_commonOf_15 : decode cX3_commonOf 15 = .ok (.aload_n 0, 1) := by decide +kernel
theorem dX3_commonOf_16 : decode cX3_commonOf 16 = .ok (.getfield 32, 3) := by decide +kernel
theorem dX3_commonOf_19 : decode cX3_commonOf 19 = .ok (.if_icmp .ge 28, 3) := by decide +kernel
theorem dX3_commonOf_22 : decode cX3_commonOf 22 = .ok (.aload_n 0, 1) := by decide +kernel
theorem dX3_commonOf_23 : decode cX3_commonOf 23 = .ok (.getfield 7, 3) := by decide +kernel
theorem dX3_commonOf_26 : decode cX3_commonOf 26 = .ok (.iload_n 1, 1) := by decide +kernel
theorem dX3_commonOf_27 : decode cX3_commonOf 27 = .ok (.iload_n 3, 1) := by decide +kernel
theorem dX3_commonOf_28 : decode cX3_commonOf 28 = .ok (.iadd, 1) := by decide +kernel
theorem dX3_commonOf_29 : decode cX3_commonOf 29 = .ok (.iaload, 1) := by decide +kernel
theorem dX3_commonOf_30 : decode cX3_commonOf 30 = .ok (.aload_n 0, 1) := by decide +kernel
theorem dX3_commonOf_31 : decode cX3_commonOf 31 = .ok (.getfield 7, 3) := by decide +kernel
theorem dX3_commonOf_34 : decode cX3_commonOf 34 = .ok (.iload_n 2, 1) := by decide +kernel
theorem dX3_commonOf_35 : decode cX3_commonOf 35 = .ok (.iload_n 3, 1) := by decide +kernel
theorem dX3_commonOf_36 : decode cX3_commonOf 36 = .ok (.iadd, 1) := by decide +kernel
theorem dX3_commonOf_37 : decode cX3_commonOf 37 = .ok (.iaload, 1) := by decide +kernel
theorem dX3_commonOf_38 : decode cX3_commonOf 38 = .ok (.if_icmp .ne 9, 3) := by decide +kernel
theorem dX3_commonOf_41 : decode cX3_commonOf 41 = .ok (.iinc 3 1, 3) := by decide +kernel
theorem dX3_commonOf_44 : decode cX3_commonOf 44 = .ok (.goto (-42), 3) := by decide +kernel
theorem dX3_commonOf_47 : decode cX3_commonOf 47 = .ok (.iload_n 3, 1) := by decide +kernel
theorem dX3_commonOf_48 : decode cX3_commonOf 48 = .ok (.ireturn, 1) := by decide +kernel
set_option maxRecDepth 20000 in
theorem ggX3_isBefore_X3_commonOf : GoodIn wsX3_isBefore wsX3_commonOf := goodIn_r _ [7, 1, 2, 8, 9, 10, 11, 12, 13, 14, 15, 16, 17, 18, 19, 20] (by decide +kernel) (by decide +kernel)
set_option maxRecDepth 20000 in
theorem gX3_isBefore_X3_commonOf : GoodIn wsX3_isBefore (wsV RX3 46 RX3 yX3_commonOf wsX3_commonOf) := goodIn_app (goodIn_of _ (by decide +kernel)) ggX3_isBefore_X3_commonOf
theorem dX3_isBefore_0 : decode cX3_isBefore 0 = .ok (.aload_n 0, 1) := by decide +kernel
theorem dX3_isBefore_1 : decode cX3_isBefore 1 = .ok (.iload_n 1, 1) := by decide +kernel
theorem dX3_isBefore_2 : decode cX3_isBefore 2 = .ok (.iload_n 2, 1) := by decide +kernel
theorem dX3_isBefore_3 : decode cX3_isBefore 3 = .ok (.invokevirtual 46, 3) := by decide +kernel
theorem dX3_isBefore_6 : decode cX3_isBefore 6 = .ok (.istore_n 3, 1) := by decide +kernel
theorem dX3_isBefore_7 : decode cX3_isBefore 7 = .ok (.iload_n 1, 1) := by decide +kernel
theorem dX3_isBefore_8 : decode cX3_isBefore 8 = .ok (.iload_n 3, 1) := by decide +kernel
theorem dX3_isBefore_9 : decode cX3_isBefore 9 = .ok (.iadd, 1) := by decide +kernel
theorem dX3_isBefore_10 : decode cX3_isBefore 10 = .ok (.aload_n 0, 1) := by decide +kernel
theorem dX3_isBefore_11 : decode cX3_isBefore 11 = .ok (.getfield 32, 3) := by decide +kernel
theorem dX3_isBefore_14 : decode cX3_isBefore 14 = .ok (.if_icmp .ne 21, 3) := by decide +kernel
theorem dX3_isBefore_17 : decode cX3_isBefore 17 = .ok (.iload_n 2, 1) := by decide +kernel
theorem dX3_isBefore_18 : decode cX3_isBefore 18 = .ok (.iload_n 3, 1) := by decide +kernel
theorem dX3_isBefore_19 : decode cX3_isBefore 19 = .ok (.iadd, 1) := by decide +kernel
theorem dX3_isBefore_20 : decode cX3_isBefore 20 = .ok (.aload_n 0, 1) := by decide +kernel
theorem dX3_isBefore_21 : decode cX3_isBefore 21 = .ok (.getfield 32, 3) := by decide +kernel
theorem dX3_isBefore_24 : decode cX3_isBefore 24 = .ok (.if_icmp .ge 7, 3) := by decide +kernel
theorem dX3_isBefore_27 : decode cX3_isBefore 27 = .ok (.iconst 1, 1) := by decide +kernel
theorem dX3_isBefore_28 : decode cX3_isBefore 28 = .ok (.goto 41, 3) := by decide +kernel
theorem dX3_isBefore_31 : decode cX3_isBefore 31 = .ok (.iconst 0, 1) := by decide +kernel
theorem dX3_isBefore_32 : decode cX3_isBefore 32 = .ok (.goto 37, 3) := by decide +kernel
theorem dX3_isBefore_35 : decode cX3_isBefore 35 = .ok (.iload_n 2, 1) := by decide +kernel
theorem dX3_isBefore_36 : decode cX3_isBefore 36 = .ok (.iload_n 3, 1) := by decide +kernel
theorem dX3_isBefore_37 : decode cX3_isBefore 37 = .ok (.iadd, 1) := by decide +kernel
theorem dX3_isBefore_38 : decode cX3_isBefore 38 = .ok (.aload_n 0, 1) := by decide +kernel
theorem dX3_isBefore_39 : decode cX3_isBefore 39 = .ok (.getfield 32, 3) := by decide +kernel
theorem dX3_isBefore_42 : decode cX3_isBefore 42 = .ok (.if_icmp .ge 26, 3) := by decide +kernel
theorem dX3_isBefore_45 : decode cX3_isBefore 45 = .ok (.aload_n 0, 1) := by decide +kernel
theorem dX3_isBefore_46 : decode cX3_isBefore 46 = .ok (.getfield 7, 3) := by decide +kernel
theorem dX3_isBefore_49 : decode cX3_isBefore 49 = .ok (.iload_n 1, 1) := by decide +kernel
theorem dX3_isBefore_50 : decode cX3_isBefore 50 = .ok (.iload_n 3, 1) := by decide +kernel
theorem dX3_isBefore_51 : decode cX3_isBefore 51 = .ok (.iadd, 1) := by decide +kernel
theorem dX3_isBefore_52 : decode cX3_isBefore 52 = .ok (.iaload, 1) := by decide +kernel
theorem dX3_isBefore_53 : decode cX3_isBefore 53 = .ok (.aload_n 0, 1) := by decide +kernel
theorem dX3_isBefore_54 : decode cX3_isBefore 54 = .ok (.getfield 7, 3) := by decide +kernel
theorem dX3_isBefore_57 : decode cX3_isBefore 57 = .ok (.iload_n 2, 1) := by decide +kernel
theorem dX3_isBefore_58 : decode cX3_isBefore 58 = .ok (.iload_n 3, 1) := by decide +kernel
theorem dX3_isBefore_59 : decode cX3_isBefore 59 = .ok (.iadd, 1) := by decide +kernel
theorem dX3_isBefore_60 : decode cX3_isBefore 60 = .ok (.iaload, 1) := by decide +kernel
theorem dX3_isBefore_61 : decode cX3_isBefore 61 = .ok (.if_icmp .ge 7, 3) := by decide +kernel
theorem dX3_isBefore_64 : decode cX3_isBefore 64 = .ok (.iconst 1, 1) := by decide +kernel
theorem dX3_isBefore_65 : decode cX3_isBefore 65 = .ok (.goto 4, 3) := by decide +kernel
theorem dX3_isBefore_68 : decode cX3_isBefore 68 = .ok (.iconst 0, 1) := by decide +kernel
theorem dX3_isBefore_69 : decode cX3_isBefore 69 = .ok (.ireturn, 1) := by decide +kernel
set_option maxRecDepth 20000 in
theorem ggX3_build_X3_isBefore : GoodIn wsX3_build wsX3_isBefore := goodIn_r _ [9, 2, 10, 11, 12, 13, 8, 14, 15, 16, 17, 18, 19, 20, 21, 22, 23, 24, 25, 26, 27] (by decide +kernel) (by decide +kernel)
set_option maxRecDepth 20000 in
theorem gX3_build_X3_isBefore : GoodIn wsX3_build (wsV RX3 50 RX3 yX3_isBefore wsX3_isBefore) := goodIn_app (goodIn_of _ (by decide +kernel)) ggX3_build_X3_isBefore
theorem dX3_build_0 : decode cX3_build 0 = .ok (.aload_n 0, 1) := by decide +kernel
theorem dX3_build_1 : decode cX3_build 1 = .ok (.getfield 35, 3) := by decide +kernel
theorem dX3_build_4 : decode cX3_build 4 = .ok (.ifCond .eq 8, 3) := by decide +kernel
theorem dX3_build_7 : decode cX3_build 7 = .ok (.aload_n 0, 1) := by decide +kernel
theorem dX3_build_8 : decode cX3_build 8 = .ok (.getfield 32, 3) := by decide +kernel
theorem dX3_build_11 : decode cX3_build 11 = .ok (.ireturn, 1) := by decide +kernel
theorem dX3_build_12 : decode cX3_build 12 = .ok (.iconst 0, 1) := by decide +kernel
theorem dX3_build_13 : decode cX3_build 13 = .ok (.istore_n 1, 1) := by decide +kernel
theorem dX3_build_14 : decode cX3_build 14 = .ok (.iload_n 1, 1) := by decide +kernel
theorem dX3_build_15 : decode cX3_build 15 = .ok (.aload_n 0, 1) := by decide +kernel
theorem dX3_build_16 : decode cX3_build 16 = .ok (.getfield 32, 3) := by decide +kernel
theorem dX3_build_19 : decode cX3_build 19 = .ok (.if_icmp .ge 16, 3) := by decide +kernel
theorem dX3_build_22 : decode cX3_build 22 = .ok (.aload_n 0, 1) := by decide +kernel
theorem dX3_build_23 : decode cX3_build 23 = .ok (.getfield 13, 3) := by decide +kernel
theorem dX3_build_26 : decode cX3_build 26 = .ok (.iload_n 1, 1) := by decide +kernel
theorem dX3_build_27 : decode cX3_build 27 = .ok (.iload_n 1, 1) := by decide +kernel
theorem dX3_build_28 : decode cX3_build 28 = .ok (.iastore, 1) := by decide +kernel
theorem dX3_build_29 : decode cX3_build 29 = .ok (.iinc 1 1, 3) := by decide +kernel
theorem dX3_build_32 : decode cX3_build 32 = .ok (.goto (-18), 3) := by decide +kernel
theorem dX3_build_35 : decode cX3_build 35 = .ok (.iconst 1, 1) := by decide +kernel
theorem dX3_build_36 : decode cX3_build 36 = .ok (.istore_n 1, 1) := by decide +kernel
theorem dX3_build_37 : decode cX3_build 37 = .ok (.iload_n 1, 1) := by decide +kernel
theorem dX3_build_38 : decode cX3_build 38 = .ok (.aload_n 0, 1) := by decide +kernel
theorem dX3_build_39 : decode cX3_build 39 = .ok (.getfield 32, 3) := by decide +kernel
theorem dX3_build_42 : decode cX3_build 42 = .ok (.if_icmp .ge 228, 3) := by decide +kernel
theorem dX3_build_45 : decode cX3_build 45 = .ok (.iconst 0, 1) := by decide +kernel
theorem dX3_build_46 : decode cX3_build 46 = .ok (.istore_n 2, 1) := by decide +kernel
theorem dX3_build_47 : decode cX3_build 47 = .ok (.iload_n 2, 1) := by decide +kernel
theorem dX3_build_48 : decode cX3_build 48 = .ok (.aload_n 0, 1) := by decide +kernel
theorem dX3_build_49 : decode cX3_build 49 = .ok (.getfield 32, 3) := by decide +kernel
theorem dX3_build_52 : decode cX3_build 52 = .ok (.if_icmp .ge 183, 3) := by decide +kernel
theorem dX3_build_55 : decode cX3_build 55 = .ok (.iload_n 2, 1) := by decide +kernel
theorem dX3_build_56 : decode cX3_build 56 = .ok (.iload_n 1, 1) := by decide +kernel
theorem dX3_build_57 : decode cX3_build 57 = .ok (.iadd, 1) := by decide +kernel
theorem dX3_build_58 : decode cX3_build 58 = .ok (.aload_n 0, 1) := by decide +kernel
theorem dX3_build_59 : decode cX3_build 59 = .ok (.getfield 32, 3) := by decide +kernel
theorem dX3_build_62 : decode cX3_build 62 = .ok (.if_icmp .ge 9, 3) := by decide +kernel
theorem dX3_build_65 : decode cX3_build 65 = .ok (.iload_n 2, 1) := by decide +kernel
theorem dX3_build_66 : decode cX3_build 66 = .ok (.iload_n 1, 1) := by decide +kernel
theorem dX3_build_67 : decode cX3_build 67 = .ok (.iadd, 1) := by decide +kernel
theorem dX3_build_68 : decode cX3_build 68 = .ok (.goto 7, 3) := by decide +kernel
theorem dX3_build_71 : decode cX3_build 71 = .ok (.aload_n 0, 1) := by decide +kernel
theorem dX3_build_72 : decode cX3_build 72 = .ok (.getfield 32, 3) := by decide +kernel
theorem dX3_build_75 : decode cX3_build 75 = .ok (.istore_n 3, 1) := by decide +kernel
theorem dX3_build_76 : decode cX3_build 76 = .ok (.iload_n 2, 1) := by decide +kernel
theorem dX3_build_77 : decode cX3_build 77 = .ok (.iconst 2, 1) := by decide +kernel
theorem dX3_build_78 : decode cX3_build 78 = .ok (.iload_n 1, 1) := by decide +kernel
theorem dX3_build_79 : decode cX3_build 79 = .ok (.imul, 1) := by decide +kernel
theorem dX3_build_80 : decode cX3_build 80 = .ok (.iadd, 1) := by decide +kernel
theorem dX3_build_81 : decode cX3_build 81 = .ok (.aload_n 0, 1) := by decide +kernel
theorem dX3_build_82 : decode cX3_build 82 = .ok (.getfield 32, 3) := by decide +kernel
theorem dX3_build_85 : decode cX3_build 85 = .ok (.if_icmp .ge 11, 3) := by decide +kernel
theorem dX3_build_88 : decode cX3_build 88 = .ok (.iload_n 2, 1) := by decide +kernel
theorem dX3_build_89 : decode cX3_build 89 = .ok (.iconst 2, 1) := by decide +kernel
theorem dX3_build_90 : decode cX3_build 90 = .ok (.iload_n 1, 1) := by decide +kernel
theorem dX3_build_91 : decode cX3_build 91 = .ok (.imul, 1) := by decide +kernel
theorem dX3_build_92 : decode cX3_build 92 = .ok (.iadd, 1) := by decide +kernel
theorem dX3_build_93 : decode cX3_build 93 = .ok (.goto 7, 3) := by decide +kernel
theorem dX3_build_96 : decode cX3_build 96 = .ok (.aload_n 0, 1) := by decide +kernel
theorem dX3_build_97 : decode cX3_build 97 = .ok (.getfield 32, 3) := by decide +kernel
theorem dX3_build_100 : decode cX3_build 100 = .ok (.istore 4, 2) := by decide +kernel
theorem dX3_build_102 : decode cX3_build 102 = .ok (.iload_n 2, 1) := by decide +kernel
theorem dX3_build_103 : decode cX3_build 103 = .ok (.istore 5, 2) := by decide +kernel
theorem dX3_build_105 : decode cX3_build 105 = .ok (.iload_n 3, 1) := by decide +kernel
theorem dX3_build_106 : decode cX3_build 106 = .ok (.istore 6, 2) := by decide +kernel
theorem dX3_build_108 : decode cX3_build 108 = .ok (.iload_n 2, 1) := by decide +kernel
theorem dX3_build_109 : decode cX3_build 109 = .ok (.istore 7, 2) := by decide +kernel
theorem dX3_build_111 : decode cX3_build 111 = .ok (.iload 7, 2) := by decide +kernel
theorem dX3_build_113 : decode cX3_build 113 = .ok (.iload 4, 2) := by decide +kernel
theorem dX3_build_115 : decode cX3_build 115 = .ok (.if_icmp .ge 111, 3) := by decide +kernel
theorem dX3_build_118 : decode cX3_build 118 = .ok (.iload 6, 2) := by decide +kernel
theorem dX3_build_120 : decode cX3_build 120 = .ok (.iload 4, 2) := by decide +kernel
theorem dX3_build_122 : decode cX3_build 122 = .ok (.if_icmp .eq 30, 3) := by decide +kernel
theorem dX3_build_125 : decode cX3_build 125 = .ok (.iload 5, 2) := by decide +kernel
theorem dX3_build_127 : decode cX3_build 127 = .ok (.iload_n 3, 1) := by decide +kernel
theorem dX3_build_128 : decode cX3_build 128 = .ok (.if_icmp .ge 28, 3) := by decide +kernel
theorem dX3_build_131 : decode cX3_build 131 = .ok (.aload_n 0, 1) := by decide +kernel
theorem dX3_build_132 : decode cX3_build 132 = .ok (.aload_n 0, 1) := by decide +kernel
theorem dX3_build_133 : decode cX3_build 133 = .ok (.getfield 13, 3) := by decide +kernel
theorem dX3_build_136 : decode cX3_build 136 = .ok (.iload 5, 2) := by decide +kernel
theorem dX3_build_138 : decode cX3_build 138 = .ok (.iaload, 1) := by decide +kernel
theorem dX3_build_139 : decode cX3_build 139 = .ok (.aload_n 0, 1) := by decide +kernel
theorem dX3_build_140 : decode cX3_build 140 = .ok (.getfield 13, 3) := by decide +kernel
