theorem dX0_init_106 : decode cX0_init 106 = .ok (.idiv, 1) := by decide +kernel
theorem dX0_init_107 : decode cX0_init 107 = .ok (.newarray .int, 2) := by decide +kernel
theorem dX0_init_109 : decode cX0_init 109 = .ok (.putfield 52, 3) := by decide +kernel
theorem dX0_init_112 : decode cX0_init 112 = .ok (.aload_n 0, 1) := by decide +kernel
theorem dX0_init_113 : decode cX0_init 113 = .ok (.iload_n 1, 1) := by decide +kernel
theorem dX0_init_114 : decode cX0_init 114 = .ok (.iconst 2, 1) := by decide +kernel
theorem dX0_init_115 : decode cX0_init 115 = .ok (.idiv, 1) := by decide +kernel
theorem dX0_init_116 : decode cX0_init 116 = .ok (.newarray .int, 2) := by decide +kernel
theorem dX0_init_118 : decode cX0_init 118 = .ok (.putfield 55, 3) := by decide +kernel
theorem dX0_init_121 : decode cX0_init 121 = .ok (.aload_n 0, 1) := by decide +kernel
theorem dX0_init_122 : decode cX0_init 122 = .ok (.iload_n 3, 1) := by decide +kernel
theorem dX0_init_123 : decode cX0_init 123 = .ok (.iconst 1, 1) := by decide +kernel
theorem dX0_init_124 : decode cX0_init 124 = .ok (.iadd, 1) := by decide +kernel
theorem dX0_init_125 : decode cX0_init 125 = .ok (.newarray .int, 2) := by decide +kernel
theorem dX0_init_127 : decode cX0_init 127 = .ok (.putfield 58, 3) := by decide +kernel
theorem dX0_init_130 : decode cX0_init 130 = .ok (.aload_n 0, 1) := by decide +kernel
theorem dX0_init_131 : decode cX0_init 131 = .ok (.iload_n 3, 1) := by decide +kernel
theorem dX0_init_132 : decode cX0_init 132 = .ok (.newarray .int, 2) := by decide +kernel
theorem dX0_init_134 : decode cX0_init 134 = .ok (.putfield 61, 3) := by decide +kernel
theorem dX0_init_137 : decode cX0_init 137 = .ok (.aload_n 0, 1) := by decide +kernel
theorem dX0_init_138 : decode cX0_init 138 = .ok (.iload_n 3, 1) := by decide +kernel
theorem dX0_init_139 : decode cX0_init 139 = .ok (.newarray .int, 2) := by decide +kernel
theorem dX0_init_141 : decode cX0_init 141 = .ok (.putfield 64, 3) := by decide +kernel
theorem dX0_init_144 : decode cX0_init 144 = .ok (.return_, 1) := by decide +kernel
set_option maxRecDepth 20000 in
theorem ggX0_sortEnds_X1_hold : GoodIn wsX0_sortEnds wsX1_hold := goodIn_r _ [8, 9, 10, 11, 12, 13, 14, 15, 131, 132, 133] (by decide +kernel) (by decide +kernel)
set_option maxRecDepth 20000 in
theorem gX0_sortEnds_X1_hold : GoodIn wsX0_sortEnds (wsV RX0 67 RX1 yX1_hold wsX1_hold) := goodIn_app (goodIn_of _ (by decide +kernel)) ggX0_sortEnds_X1_hold
set_option maxRecDepth 20000 in
theorem ggX0_sortEnds_X0_goDown : GoodIn wsX0_sortEnds wsX0_goDown := goodIn_r _ [20, 1, 21, 22, 23, 24, 19, 25, 26, 27, 28, 29, 30, 31, 32, 33, 34, 35, 36, 37, 38, 39, 40, 41, 42, 43, 44, 45, 46, 47, 48, 49, 50, 51, 52, 53, 54, 55, 56, 57, 58, 59, 60, 61, 62, 63, 64, 65, 66, 67, 68, 69, 70, 71, 72, 73, 74, 75, 76, 77, 78, 79, 80, 81, 82, 83, 84, 85, 86, 87, 88, 89, 90, 91, 92, 93, 94, 95, 3, 96, 97, 98, 99, 100, 101, 102, 103, 104, 105, 106, 107, 108, 109, 110, 111, 4, 5, 6, 7, 8, 9, 10, 11, 12, 13, 14, 15, 116, 117, 118, 119, 120, 121, 122, 123, 124, 125, 126, 127, 128, 129, 130, 131, 132, 133] (by decide +kernel) (by decide +kernel)
set_option maxRecDepth 20000 in
theorem gX0_sortEnds_X0_goDown : GoodIn wsX0_sortEnds (wsV RX0 71 RX0 yX0_goDown wsX0_goDown) := goodIn_app (goodIn_of _ (by decide +kernel)) ggX0_sortEnds_X0_goDown
set_option maxRecDepth 20000 in
theorem ggX0_sortEnds_X0_induceFrom : GoodIn wsX0_sortEnds wsX0_induceFrom := goodIn_r _ [69, 29, 70, 63, 49, 71, 72, 73, 19, 74, 31, 75, 64, 56, 65, 76, 77, 78, 79, 37, 38, 39, 40, 27, 55, 57, 80, 81, 82, 83, 62, 51, 52, 53, 54, 36, 84, 85, 86, 87, 41, 42, 43, 44, 88, 89, 90, 91, 116, 117, 118, 119, 120, 121, 122, 123, 124, 125, 126, 127, 128, 129, 130] (by decide +kernel) (by decide +kernel)
set_option maxRecDepth 20000 in
theorem gX0_sortEnds_X0_induceFrom : GoodIn wsX0_sortEnds (wsV RX0 75 RX0 yX0_induceFrom wsX0_induceFrom) := goodIn_app (goodIn_of _ (by decide +kernel)) ggX0_sortEnds_X0_induceFrom
set_option maxRecDepth 20000 in
theorem ggX0_sortEnds_X0_enter : GoodIn wsX0_sortEnds wsX0_enter := goodIn_r _ [25, 26, 27, 28, 29, 30, 31, 32, 33, 34, 19, 35, 36, 37, 38, 39, 40, 41, 42, 43, 44, 45, 46, 47, 48, 49, 50, 21, 51, 52, 53, 54, 55, 56, 57, 58, 59, 60, 61, 62, 63, 64, 65, 131, 132, 133, 116, 117, 118, 119, 120, 121, 122, 123, 124, 125, 126, 127, 128, 129, 130] (by decide +kernel) (by decide +kernel)
set_option maxRecDepth 20000 in
theorem gX0_sortEnds_X0_enter : GoodIn wsX0_sortEnds (wsV RX0 79 RX0 yX0_enter wsX0_enter) := goodIn_app (goodIn_of _ (by decide +kernel)) ggX0_sortEnds_X0_enter
set_option maxRecDepth 20000 in
theorem ggX0_sortEnds_X0_takeOrderFromBelow : GoodIn wsX0_sortEnds wsX0_takeOrderFromBelow := goodIn_r _ [115, 49, 3, 21, 70, 64, 56, 65, 55, 57, 116, 117, 118, 119, 120, 121, 122, 123, 124, 125, 126, 127, 128, 129, 130] (by decide +kernel) (by decide +kernel)
set_option maxRecDepth 20000 in
theorem gX0_sortEnds_X0_takeOrderFromBelow : GoodIn wsX0_sortEnds (wsV RX0 83 RX0 yX0_takeOrderFromBelow wsX0_takeOrderFromBelow) := goodIn_app (goodIn_of _ (by decide +kernel)) ggX0_sortEnds_X0_takeOrderFromBelow
theorem dX0_sortEnds_0 : decode cX0_sortEnds 0 = .ok (.iload_n 1, 1) := by decide +kernel
theorem dX0_sortEnds_1 : decode cX0_sortEnds 1 = .ok (.iconst 1, 1) := by decide +kernel
theorem dX0_sortEnds_2 : decode cX0_sortEnds 2 = .ok (.if_icmp .ge 4, 3) := by decide +kernel
theorem dX0_sortEnds_5 : decode cX0_sortEnds 5 = .ok (.return_, 1) := by decide +kernel
theorem dX0_sortEnds_6 : decode cX0_sortEnds 6 = .ok (.aload_n 0, 1) := by decide +kernel
theorem dX0_sortEnds_7 : decode cX0_sortEnds 7 = .ok (.getfield 17, 3) := by decide +kernel
theorem dX0_sortEnds_10 : decode cX0_sortEnds 10 = .ok (.iconst 0, 1) := by decide +kernel
theorem dX0_sortEnds_11 : decode cX0_sortEnds 11 = .ok (.aaload, 1) := by decide +kernel
theorem dX0_sortEnds_12 : decode cX0_sortEnds 12 = .ok (.iload_n 1, 1) := by decide +kernel
theorem dX0_sortEnds_13 : decode cX0_sortEnds 13 = .ok (.aload_n 0, 1) := by decide +kernel
theorem dX0_sortEnds_14 : decode cX0_sortEnds 14 = .ok (.getfield 30, 3) := by decide +kernel
theorem dX0_sortEnds_17 : decode cX0_sortEnds 17 = .ok (.invokevirtual 67, 3) := by decide +kernel
theorem dX0_sortEnds_20 : decode cX0_sortEnds 20 = .ok (.aload_n 0, 1) := by decide +kernel
theorem dX0_sortEnds_21 : decode cX0_sortEnds 21 = .ok (.invokevirtual 71, 3) := by decide +kernel
theorem dX0_sortEnds_24 : decode cX0_sortEnds 24 = .ok (.istore_n 2, 1) := by decide +kernel
theorem dX0_sortEnds_25 : decode cX0_sortEnds 25 = .ok (.aload_n 0, 1) := by decide +kernel
theorem dX0_sortEnds_26 : decode cX0_sortEnds 26 = .ok (.aload_n 0, 1) := by decide +kernel
theorem dX0_sortEnds_27 : decode cX0_sortEnds 27 = .ok (.getfield 55, 3) := by decide +kernel
theorem dX0_sortEnds_30 : decode cX0_sortEnds 30 = .ok (.invokevirtual 75, 3) := by decide +kernel
theorem dX0_sortEnds_33 : decode cX0_sortEnds 33 = .ok (.iload_n 2, 1) := by decide +kernel
theorem dX0_sortEnds_34 : decode cX0_sortEnds 34 = .ok (.iconst 1, 1) := by decide +kernel
theorem dX0_sortEnds_35 : decode cX0_sortEnds 35 = .ok (.isub, 1) := by decide +kernel
theorem dX0_sortEnds_36 : decode cX0_sortEnds 36 = .ok (.istore_n 3, 1) := by decide +kernel
theorem dX0_sortEnds_37 : decode cX0_sortEnds 37 = .ok (.iload_n 3, 1) := by decide +kernel
theorem dX0_sortEnds_38 : decode cX0_sortEnds 38 = .ok (.ifCond .lt 31, 3) := by decide +kernel
theorem dX0_sortEnds_41 : decode cX0_sortEnds 41 = .ok (.aload_n 0, 1) := by decide +kernel
theorem dX0_sortEnds_42 : decode cX0_sortEnds 42 = .ok (.aload_n 0, 1) := by decide +kernel
theorem dX0_sortEnds_43 : decode cX0_sortEnds 43 = .ok (.getfield 17, 3) := by decide +kernel
theorem dX0_sortEnds_46 : decode cX0_sortEnds 46 = .ok (.iload_n 3, 1) := by decide +kernel
theorem dX0_sortEnds_47 : decode cX0_sortEnds 47 = .ok (.aaload, 1) := by decide +kernel
theorem dX0_sortEnds_48 : decode cX0_sortEnds 48 = .ok (.invokevirtual 79, 3) := by decide +kernel
theorem dX0_sortEnds_51 : decode cX0_sortEnds 51 = .ok (.aload_n 0, 1) := by decide +kernel
theorem dX0_sortEnds_52 : decode cX0_sortEnds 52 = .ok (.invokevirtual 83, 3) := by decide +kernel
theorem dX0_sortEnds_55 : decode cX0_sortEnds 55 = .ok (.aload_n 0, 1) := by decide +kernel
theorem dX0_sortEnds_56 : decode cX0_sortEnds 56 = .ok (.aload_n 0, 1) := by decide +kernel
theorem dX0_sortEnds_57 : decode cX0_sortEnds 57 = .ok (.getfield 55, 3) := by decide +kernel
theorem dX0_sortEnds_60 : decode cX0_sortEnds 60 = .ok (.invokevirtual 75, 3) := by decide +kernel
theorem dX0_sortEnds_63 : decode cX0_sortEnds 63 = .ok (.iinc 3 (-1), 3) := by decide +kernel
theorem dX0_sortEnds_66 : decode cX0_sortEnds 66 = .ok (.goto (-29), 3) := by decide +kernel
theorem dX0_sortEnds_69 : decode cX0_sortEnds 69 = .ok (.return_, 1) := by decide +kernel
theorem dX0_levelsFor_0 : decode cX0_levelsFor 0 = .ok (.iconst 1, 1) := by decide +kernel
theorem dX0_levelsFor_1 : decode cX0_levelsFor 1 = .ok (.istore_n 1, 1) := by decide +kernel
theorem dX0_levelsFor_2 : decode cX0_levelsFor 2 = .ok (.iload_n 0, 1) := by decide +kernel
theorem dX0_levelsFor_3 : decode cX0_levelsFor 3 = .ok (.iconst 2, 1) := by decide +kernel
theorem dX0_levelsFor_4 : decode cX0_levelsFor 4 = .ok (.idiv, 1) := by decide +kernel
theorem dX0_levelsFor_5 : decode cX0_levelsFor 5 = .ok (.istore_n 2, 1) := by decide +kernel
theorem dX0_levelsFor_6 : decode cX0_levelsFor 6 = .ok (.iload_n 2, 1) := by decide +kernel
theorem dX0_levelsFor_7 : decode cX0_levelsFor 7 = .ok (.iconst 1, 1) := by decide +kernel
theorem dX0_levelsFor_8 : decode cX0_levelsFor 8 = .ok (.if_icmp .le 13, 3) := by decide +kernel
theorem dX0_levelsFor_11 : decode cX0_levelsFor 11 = .ok (.iinc 1 1, 3) := by decide +kernel
theorem dX0_levelsFor_14 : decode cX0_levelsFor 14 = .ok (.iload_n 2, 1) := by decide +kernel
theorem dX0_levelsFor_15 : decode cX0_levelsFor 15 = .ok (.iconst 2, 1) := by decide +kernel
theorem dX0_levelsFor_16 : decode cX0_levelsFor 16 = .ok (.idiv, 1) := by decide +kernel
theorem dX0_levelsFor_17 : decode cX0_levelsFor 17 = .ok (.istore_n 2, 1) := by decide +kernel
theorem dX0_levelsFor_18 : decode cX0_levelsFor 18 = .ok (.goto (-12), 3) := by decide +kernel
theorem dX0_levelsFor_21 : decode cX0_levelsFor 21 = .ok (.iload_n 1, 1) := by decide +kernel
theorem dX0_levelsFor_22 : decode cX0_levelsFor 22 = .ok (.ireturn, 1) := by decide +kernel
set_option maxRecDepth 20000 in
theorem ggX0_goDown_X0_enter : GoodIn wsX0_goDown wsX0_enter := goodIn_r _ [7, 8, 9, 10, 11, 12, 13, 14, 15, 16, 6, 17, 18, 19, 20, 21, 22, 23, 24, 25, 26, 27, 28, 29, 30, 31, 32, 2, 33, 34, 35, 36, 37, 38, 39, 40, 41, 42, 43, 44, 45, 46, 47, 122, 123, 124, 107, 108, 109, 110, 111, 112, 113, 114, 115, 116, 117, 118, 119, 120, 121] (by decide +kernel) (by decide +kernel)
set_option maxRecDepth 20000 in
theorem gX0_goDown_X0_enter : GoodIn wsX0_goDown (wsV RX0 79 RX0 yX0_enter wsX0_enter) := goodIn_app (goodIn_of _ (by decide +kernel)) ggX0_goDown_X0_enter
set_option maxRecDepth 20000 in
theorem ggX0_goDown_X0_induceFrom : GoodIn wsX0_goDown wsX0_induceFrom := goodIn_r _ [51, 11, 52, 45, 31, 53, 54, 55, 6, 56, 13, 57, 46, 38, 47, 58, 59, 60, 61, 19, 20, 21, 22, 9, 37, 39, 62, 63, 64, 65, 44, 33, 34, 35, 36, 18, 66, 67, 68, 69, 23, 24, 25, 26, 70, 71, 72, 73, 107, 108, 109, 110, 111, 112, 113, 114, 115, 116, 117, 118, 119, 120, 121] (by decide +kernel) (by decide +kernel)
set_option maxRecDepth 20000 in
theorem gX0_goDown_X0_induceFrom : GoodIn wsX0_goDown (wsV RX0 75 RX0 yX0_induceFrom wsX0_induceFrom) := goodIn_app (goodIn_of _ (by decide +kernel)) ggX0_goDown_X0_induceFrom
set_option maxRecDepth 20000 in
theorem ggX0_goDown_X0_gatherValleys : GoodIn wsX0_goDown wsX0_gatherValleys := goodIn_r _ [77, 11, 52, 32, 78, 46, 38, 47, 37, 39, 107, 108, 109, 110, 111, 112, 113, 114, 115, 116, 117, 118, 119, 120, 121] (by decide +kernel) (by decide +kernel)
set_option maxRecDepth 20000 in
theorem gX0_goDown_X0_gatherValleys : GoodIn wsX0_goDown (wsV RX0 86 RX0 yX0_gatherValleys wsX0_gatherValleys) := goodIn_app (goodIn_of _ (by decide +kernel)) ggX0_goDown_X0_gatherValleys
set_option maxRecDepth 20000 in
theorem ggX0_goDown_X0_areAllNamed : GoodIn wsX0_goDown wsX0_areAllNamed := goodIn_r _ [82, 8, 31, 83, 84, 85, 6, 86, 78, 32, 46, 38, 47, 87, 88, 89, 90, 91, 92, 93, 94, 2, 11, 19, 20, 21, 22, 9, 37, 39, 95, 96, 97, 98, 99, 100, 101, 102, 103, 104, 105, 106, 122, 123, 124, 107, 108, 109, 110, 111, 112, 113, 114, 115, 116, 117, 118, 119, 120, 121] (by decide +kernel) (by decide +kernel)
set_option maxRecDepth 20000 in
theorem gX0_goDown_X0_areAllNamed : GoodIn wsX0_goDown (wsV RX0 89 RX0 yX0_areAllNamed wsX0_areAllNamed) := goodIn_app (goodIn_of _ (by decide +kernel)) ggX0_goDown_X0_areAllNamed
theorem dX0_goDown_0 : decode cX0_goDown 0 = .ok (.iconst 0, 1) := by decide +kernel
theorem dX0_goDown_1 : decode cX0_goDown 1 = .ok (.istore_n 1, 1) := by decide +kernel
theorem dX0_goDown_2 : decode cX0_goDown 2 = .ok (.iconst 0, 1) := by decide +kernel
theorem dX0_goDown_3 : decode cX0_goDown 3 = .ok (.istore_n 2, 1) := by decide +kernel
theorem dX0_goDown_4 : decode cX0_goDown 4 = .ok (.iconst 0, 1) := by decide +kernel
theorem dX0_goDown_5 : decode cX0_goDown 5 = .ok (.istore_n 3, 1) := by decide +kernel
theorem dX0_goDown_6 : decode cX0_goDown 6 = .ok (.iload_n 3, 1) := by decide +kernel
theorem dX0_goDown_7 : decode cX0_goDown 7 = .ok (.aload_n 0, 1) := by decide +kernel
theorem dX0_goDown_8 : decode cX0_goDown 8 = .ok (.getfield 17, 3) := by decide +kernel
theorem dX0_goDown_11 : decode cX0_goDown 11 = .ok (.arraylength, 1) := by decide +kernel
theorem dX0_goDown_12 : decode cX0_goDown 12 = .ok (.if_icmp .ge 69, 3) := by decide +kernel
theorem dX0_goDown_15 : decode cX0_goDown 15 = .ok (.iload_n 2, 1) := by decide +kernel
theorem dX0_goDown_16 : decode cX0_goDown 16 = .ok (.ifCond .ne 65, 3) := by decide +kernel
theorem dX0_goDown_19 : decode cX0_goDown 19 = .ok (.aload_n 0, 1) := by decide +kernel
theorem dX0_goDown_20 : decode cX0_goDown 20 = .ok (.aload_n 0, 1) := by decide +kernel
theorem dX0_goDown_21 : decode cX0_goDown 21 = .ok (.getfield 17, 3) := by decide +kernel
theorem dX0_goDown_24 : decode cX0_goDown 24 = .ok (.iload_n 3, 1) := by decide +kernel
theorem dX0_goDown_25 : decode cX0_goDown 25 = .ok (.aaload, 1) := by decide +kernel
theorem dX0_goDown_26 : decode cX0_goDown 26 = .ok (.invokevirtual 79, 3) := by decide +kernel
theorem dX0_goDown_29 : decode cX0_goDown 29 = .ok (.aload_n 0, 1) := by decide +kernel
theorem dX0_goDown_30 : decode cX0_goDown 30 = .ok (.aload_n 0, 1) := by decide +kernel
theorem dX0_goDown_31 : decode cX0_goDown 31 = .ok (.getfield 52, 3) := by decide +kernel
theorem dX0_goDown_34 : decode cX0_goDown 34 = .ok (.invokevirtual 75, 3) := by decide +kernel
theorem dX0_goDown_37 : decode cX0_goDown 37 = .ok (.aload_n 0, 1) := by decide +kernel
theorem dX0_goDown_38 : decode cX0_goDown 38 = .ok (.invokevirtual 86, 3) := by decide +kernel
theorem dX0_goDown_41 : decode cX0_goDown 41 = .ok (.iload_n 3, 1) := by decide +kernel
theorem dX0_goDown_42 : decode cX0_goDown 42 = .ok (.iconst 1, 1) := by decide +kernel
theorem dX0_goDown_43 : decode cX0_goDown 43 = .ok (.iadd, 1) := by decide +kernel
theorem dX0_goDown_44 : decode cX0_goDown 44 = .ok (.aload_n 0, 1) := by decide +kernel
theorem dX0_goDown_45 : decode cX0_goDown 45 = .ok (.getfield 17, 3) := by decide +kernel
theorem dX0_goDown_48 : decode cX0_goDown 48 = .ok (.arraylength, 1) := by decide +kernel
theorem dX0_goDown_49 : decode cX0_goDown 49 = .ok (.if_icmp .eq 18, 3) := by decide +kernel
theorem dX0_goDown_52 : decode cX0_goDown 52 = .ok (.aload_n 0, 1) := by decide +kernel
theorem dX0_goDown_53 : decode cX0_goDown 53 = .ok (.aload_n 0, 1) := by decide +kernel
theorem dX0_goDown_54 : decode cX0_goDown 54 = .ok (.getfield 17, 3) := by decide +kernel
theorem dX0_goDown_57 : decode cX0_goDown 57 = .ok (.iload_n 3, 1) := by decide +kernel
theorem dX0_goDown_58 : decode cX0_goDown 58 = .ok (.iconst 1, 1) := by decide +kernel
theorem dX0_goDown_59 : decode cX0_goDown 59 = .ok (.iadd, 1) := by decide +kernel
theorem dX0_goDown_60 : decode cX0_goDown 60 = .ok (.aaload, 1) := by decide +kernel
theorem dX0_goDown_61 : decode cX0_goDown 61 = .ok (.invokevirtual 89, 3) := by decide +kernel
theorem dX0_goDown_64 : decode cX0_goDown 64 = .ok (.ifCond .eq 7, 3) := by decide +kernel
theorem dX0_goDown_67 : decode cX0_goDown 67 = .ok (.iconst 1, 1) := by decide +kernel
theorem dX0_goDown_68 : decode cX0_goDown 68 = .ok (.goto 4, 3) := by decide +kernel
theorem dX0_goDown_71 : decode cX0_goDown 71 = .ok (.iconst 0, 1) := by decide +kernel
theorem dX0_goDown_72 : decode cX0_goDown 72 = .ok (.istore_n 2, 1) := by decide +kernel
theorem dX0_goDown_73 : decode cX0_goDown 73 = .ok (.iload_n 3, 1) := by decide +kernel
theorem dX0_goDown_74 : decode cX0_goDown 74 = .ok (.istore_n 1, 1) := by decide +kernel
theorem dX0_goDown_75 : decode cX0_goDown 75 = .ok (.iinc 3 1, 3) := by decide +kernel
theorem dX0_goDown_78 : decode cX0_goDown 78 = .ok (.goto (-72), 3) := by decide +kernel
theorem dX0_goDown_81 : decode cX0_goDown 81 = .ok (.iload_n 1, 1) := by decide +kernel
theorem dX0_goDown_82 : decode cX0_goDown 82 = .ok (.ireturn, 1) := by decide +kernel
set_option maxRecDepth 20000 in
theorem ggX0_areAllNamed_X0_nameValleys : GoodIn wsX0_areAllNamed wsX0_nameValleys := goodIn_r _ [7, 2, 8, 9, 10, 11, 12, 13, 14, 15, 6, 16, 17, 18, 19, 20, 21, 22, 23, 24, 25, 26, 27, 28, 29, 45, 46, 47, 48, 49, 50, 51, 52, 53, 54, 55, 56, 57, 58, 59] (by decide +kernel) (by decide +kernel)
set_option maxRecDepth 20000 in
theorem gX0_areAllNamed_X0_nameValleys : GoodIn wsX0_areAllNamed (wsV RX0 93 RX0 yX0_nameValleys wsX0_nameValleys) := goodIn_app (goodIn_of _ (by decide +kernel)) ggX0_areAllNamed_X0_nameValleys
set_option maxRecDepth 20000 in
theorem ggX0_areAllNamed_X1_hold : GoodIn wsX0_areAllNamed wsX1_hold := goodIn_r _ [34, 35, 36, 37, 38, 39, 40, 41, 42, 43, 44] (by decide +kernel) (by decide +kernel)
set_option maxRecDepth 20000 in
theorem gX0_areAllNamed_X1_hold : GoodIn wsX0_areAllNamed (wsV RX0 67 RX1 yX1_hold wsX1_hold) := goodIn_app (goodIn_of _ (by decide +kernel)) ggX0_areAllNamed_X1_hold
theorem dX0_areAllNamed_0 : decode cX0_areAllNamed 0 = .ok (.aload_n 0, 1) := by decide +kernel
theorem dX0_areAllNamed_1 : decode cX0_areAllNamed 1 = .ok (.aload_n 1, 1) := by decide +kernel
theorem dX0_areAllNamed_2 : decode cX0_areAllNamed 2 = .ok (.getfield 34, 3) := by decide +kernel
theorem dX0_areAllNamed_5 : decode cX0_areAllNamed 5 = .ok (.invokevirtual 93, 3) := by decide +kernel
theorem dX0_areAllNamed_8 : decode cX0_areAllNamed 8 = .ok (.istore_n 2, 1) := by decide +kernel
theorem dX0_areAllNamed_9 : decode cX0_areAllNamed 9 = .ok (.aload_n 1, 1) := by decide +kernel
theorem dX0_areAllNamed_10 : decode cX0_areAllNamed 10 = .ok (.aload_n 0, 1) := by decide +kernel
theorem dX0_areAllNamed_11 : decode cX0_areAllNamed 11 = .ok (.getfield 97, 3) := by decide +kernel
theorem dX0_areAllNamed_14 : decode cX0_areAllNamed 14 = .ok (.iload_n 2, 1) := by decide +kernel
theorem dX0_areAllNamed_15 : decode cX0_areAllNamed 15 = .ok (.invokevirtual 67, 3) := by decide +kernel
theorem dX0_areAllNamed_18 : decode cX0_areAllNamed 18 = .ok (.iload_n 2, 1) := by decide +kernel
theorem dX0_areAllNamed_19 : decode cX0_areAllNamed 19 = .ok (.aload_n 0, 1) := by decide +kernel
theorem dX0_areAllNamed_20 : decode cX0_areAllNamed 20 = .ok (.getfield 97, 3) := by decide +kernel
theorem dX0_areAllNamed_23 : decode cX0_areAllNamed 23 = .ok (.if_icmp .ne 7, 3) := by decide +kernel
theorem dX0_areAllNamed_26 : decode cX0_areAllNamed 26 = .ok (.iconst 1, 1) := by decide +kernel
theorem dX0_areAllNamed_27 : decode cX0_areAllNamed 27 = .ok (.goto 4, 3) := by decide +kernel
theorem dX0_areAllNamed_30 : decode cX0_areAllNamed 30 = .ok (.iconst 0, 1) := by decide +kernel
theorem dX0_areAllNamed_31 : decode cX0_areAllNamed 31 = .ok (.ireturn, 1) := by decide +kernel
set_option maxRecDepth 20000 in
theorem ggX0_enter_X0_markRising : GoodIn wsX0_enter wsX0_markRising := goodIn_r _ [11, 4, 12, 13, 14, 15, 10, 16, 2, 17, 18, 19, 20, 46, 47, 48, 49, 50, 51, 52, 53, 54, 55, 56, 57, 58, 59, 60] (by decide +kernel) (by decide +kernel)
set_option maxRecDepth 20000 in
theorem gX0_enter_X0_markRising : GoodIn wsX0_enter (wsV RX0 108 RX0 yX0_markRising wsX0_markRising) := goodIn_app (goodIn_of _ (by decide +kernel)) ggX0_enter_X0_markRising
set_option maxRecDepth 20000 in
theorem ggX0_enter_X0_findValleys : GoodIn wsX0_enter wsX0_findValleys := goodIn_r _ [24, 25, 4, 26, 27, 17, 18, 19, 10, 20, 12, 28, 29, 30, 31, 32, 33, 34, 46, 47, 48, 49, 50, 51, 52, 53, 54, 55, 56, 57, 58, 59, 60] (by decide +kernel) (by decide +kernel)
set_option maxRecDepth 20000 in
theorem gX0_enter_X0_findValleys : GoodIn wsX0_enter (wsV RX0 111 RX0 yX0_findValleys wsX0_findValleys) := goodIn_app (goodIn_of _ (by decide +kernel)) ggX0_enter_X0_findValleys
set_option maxRecDepth 20000 in
theorem ggX0_enter_X0_findBuckets : GoodIn wsX0_enter wsX0_findBuckets := goodIn_r _ [38, 6, 39, 40, 4, 12, 13, 14, 15, 10, 16, 2, 41, 33, 42, 32, 34, 46, 47, 48, 49, 50, 51, 52, 53, 54, 55, 56, 57, 58, 59, 60] (by decide +kernel) (by decide +kernel)
set_option maxRecDepth 20000 in
theorem gX0_enter_X0_findBuckets : GoodIn wsX0_enter (wsV RX0 114 RX0 yX0_findBuckets wsX0_findBuckets) := goodIn_app (goodIn_of _ (by decide +kernel)) ggX0_enter_X0_findBuckets
theorem dX0_enter_0 : decode cX0_enter 0 = .ok (.aload_n 0, 1) := by decide +kernel
theorem dX0_enter_1 : decode cX0_enter 1 = .ok (.aload_n 1, 1) := by decide +kernel
theorem dX0_enter_2 : decode cX0_enter 2 = .ok (.getfield 34, 3) := by decide +kernel
theorem dX0_enter_5 : decode cX0_enter 5 = .ok (.putfield 41, 3) := by decide +kernel
theorem dX0_enter_8 : decode cX0_enter 8 = .ok (.aload_n 0, 1) := by decide +kernel
theorem dX0_enter_9 : decode cX0_enter 9 = .ok (.aload_n 1, 1) := by decide +kernel
theorem dX0_enter_10 : decode cX0_enter 10 = .ok (.getfield 100, 3) := by decide +kernel
theorem dX0_enter_13 : decode cX0_enter 13 = .ok (.putfield 103, 3) := by decide +kernel
theorem dX0_enter_16 : decode cX0_enter 16 = .ok (.aload_n 0, 1) := by decide +kernel
theorem dX0_enter_17 : decode cX0_enter 17 = .ok (.aload_n 1, 1) := by decide +kernel
theorem dX0_enter_18 : decode cX0_enter 18 = .ok (.getfield 104, 3) := by decide +kernel
theorem dX0_enter_21 : decode cX0_enter 21 = .ok (.putfield 107, 3) := by decide +kernel
theorem dX0_enter_24 : decode cX0_enter 24 = .ok (.aload_n 0, 1) := by decide +kernel
theorem dX0_enter_25 : decode cX0_enter 25 = .ok (.invokevirtual 108, 3) := by decide +kernel
theorem dX0_enter_28 : decode cX0_enter 28 = .ok (.aload_n 0, 1) := by decide +kernel
theorem dX0_enter_29 : decode cX0_enter 29 = .ok (.invokevirtual 111, 3) := by decide +kernel
theorem dX0_enter_32 : decode cX0_enter 32 = .ok (.aload_n 0, 1) := by decide +kernel
theorem dX0_enter_33 : decode cX0_enter 33 = .ok (.invokevirtual 114, 3) := by decide +kernel
theorem dX0_enter_36 : decode cX0_enter 36 = .ok (.return_, 1) := by decide +kernel
set_option maxRecDepth 20000 in
theorem ggX0_markRising_X0_letterAt : GoodIn wsX0_markRising wsX0_letterAt := goodIn_r _ [7, 1, 8, 13, 14, 15, 16, 17, 18, 19, 20, 21, 22, 23, 24, 25, 26, 27] (by decide +kernel) (by decide +kernel)
set_option maxRecDepth 20000 in
theorem gX0_markRising_X0_letterAt : GoodIn wsX0_markRising (wsV RX0 117 RX0 yX0_letterAt wsX0_letterAt) := goodIn_app (goodIn_of _ (by decide +kernel)) ggX0_markRising_X0_letterAt
set_option maxRecDepth 20000 in
theorem ggX0_markRising_X0_isRising : GoodIn wsX0_markRising wsX0_isRising := goodIn_r _ [12, 1, 2, 13, 14, 15, 16, 17, 18, 19, 20, 21, 22, 23, 24, 25, 26, 27] (by decide +kernel) (by decide +kernel)
set_option maxRecDepth 20000 in
theorem gX0_markRising_X0_isRising : GoodIn wsX0_markRising (wsV RX0 120 RX0 yX0_isRising wsX0_isRising) := goodIn_app (goodIn_of _ (by decide +kernel)) ggX0_markRising_X0_isRising
theorem dX0_markRising_0 : decode cX0_markRising 0 = .ok (.aload_n 0, 1) := by decide +kernel
theorem dX0_markRising_1 : decode cX0_markRising 1 = .ok (.getfield 103, 3) := by decide +kernel
theorem dX0_markRising_4 : decode cX0_markRising 4 = .ok (.iconst 1, 1) := by decide +kernel
theorem dX0_markRising_5 : decode cX0_markRising 5 = .ok (.isub, 1) := by decide +kernel
theorem dX0_markRising_6 : decode cX0_markRising 6 = .ok (.istore_n 1, 1) := by decide +kernel
theorem dX0_markRising_7 : decode cX0_markRising 7 = .ok (.iload_n 1, 1) := by decide +kernel
theorem dX0_markRising_8 : decode cX0_markRising 8 = .ok (.ifCond .lt 54, 3) := by decide +kernel
theorem dX0_markRising_11 : decode cX0_markRising 11 = .ok (.aload_n 0, 1) := by decide +kernel
theorem dX0_markRising_12 : decode cX0_markRising 12 = .ok (.iload_n 1, 1) := by decide +kernel
theorem dX0_markRising_13 : decode cX0_markRising 13 = .ok (.invokevirtual 117, 3) := by decide +kernel
theorem dX0_markRising_16 : decode cX0_markRising 16 = .ok (.istore_n 2, 1) := by decide +kernel
theorem dX0_markRising_17 : decode cX0_markRising 17 = .ok (.aload_n 0, 1) := by decide +kernel
theorem dX0_markRising_18 : decode cX0_markRising 18 = .ok (.iload_n 1, 1) := by decide +kernel
theorem dX0_markRising_19 : decode cX0_markRising 19 = .ok (.iconst 1, 1) := by decide +kernel
theorem dX0_markRising_20 : decode cX0_markRising 20 = .ok (.iadd, 1) := by decide +kernel
theorem dX0_markRising_21 : decode cX0_markRising 21 = .ok (.invokevirtual 117, 3) := by decide +kernel
theorem dX0_markRising_24 : decode cX0_markRising 24 = .ok (.istore_n 3, 1) := by decide +kernel
theorem dX0_markRising_25 : decode cX0_markRising 25 = .ok (.aload_n 0, 1) := by decide +kernel
theorem dX0_markRising_26 : decode cX0_markRising 26 = .ok (.getfield 45, 3) := by decide +kernel
theorem dX0_markRising_29 : decode cX0_markRising 29 = .ok (.iload_n 1, 1) := by decide +kernel
theorem dX0_markRising_30 : decode cX0_markRising 30 = .ok (.iload_n 2, 1) := by decide +kernel
theorem dX0_markRising_31 : decode cX0_markRising 31 = .ok (.iload_n 3, 1) := by decide +kernel
theorem dX0_markRising_32 : decode cX0_markRising 32 = .ok (.if_icmp .ne 13, 3) := by decide +kernel
theorem dX0_markRising_35 : decode cX0_markRising 35 = .ok (.aload_n 0, 1) := by decide +kernel
theorem dX0_markRising_36 : decode cX0_markRising 36 = .ok (.iload_n 1, 1) := by decide +kernel
theorem dX0_markRising_37 : decode cX0_markRising 37 = .ok (.iconst 1, 1) := by decide +kernel
theorem dX0_markRising_38 : decode cX0_markRising 38 = .ok (.iadd, 1) := by decide +kernel
theorem dX0_markRising_39 : decode cX0_markRising 39 = .ok (.invokevirtual 120, 3) := by decide +kernel
theorem dX0_markRising_42 : decode cX0_markRising 42 = .ok (.goto 13, 3) := by decide +kernel
theorem dX0_markRising_45 : decode cX0_markRising 45 = .ok (.iload_n 2, 1) := by decide +kernel
theorem dX0_markRising_46 : decode cX0_markRising 46 = .ok (.iload_n 3, 1) := by decide +kernel
theorem dX0_markRising_47 : decode cX0_markRising 47 = .ok (.if_icmp .ge 7, 3) := by decide +kernel
theorem dX0_markRising_50 : decode cX0_markRising 50 = .ok (.iconst 1, 1) := by decide +kernel
theorem dX0_markRising_51 : decode cX0_markRising 51 = .ok (.goto 4, 3) := by decide +kernel
theorem dX0_markRising_54 : decode cX0_markRising 54 = .ok (.iconst 0, 1) := by decide +kernel
theorem dX0_markRising_55 : decode cX0_markRising 55 = .ok (.bastore, 1) := by decide +kernel
theorem dX0_markRising_56 : decode cX0_markRising 56 = .ok (.iinc 1 (-1), 3) := by decide +kernel
theorem dX0_markRising_59 : decode cX0_markRising 59 = .ok (.goto (-52), 3) := by decide +kernel
theorem dX0_markRising_62 : decode cX0_markRising 62 = .ok (.return_, 1) := by decide +kernel
set_option maxRecDepth 20000 in
theorem ggX0_findValleys_X0_isRising : GoodIn wsX0_findValleys wsX0_isRising := goodIn_r _ [9, 2, 10, 18, 19, 20, 21, 22, 23, 24, 25, 26, 27, 28, 29, 30, 31, 32] (by decide +kernel) (by decide +kernel)
set_option maxRecDepth 20000 in
theorem gX0_findValleys_X0_isRising : GoodIn wsX0_findValleys (wsV RX0 120 RX0 yX0_isRising wsX0_isRising) := goodIn_app (goodIn_of _ (by decide +kernel)) ggX0_findValleys_X0_isRising
set_option maxRecDepth 20000 in
theorem ggX0_findValleys_X0_isFalling : GoodIn wsX0_findValleys wsX0_isFalling := goodIn_r _ [14, 2, 10, 18, 19, 20, 21, 22, 23, 24, 25, 26, 27, 28, 29, 30, 31, 32] (by decide +kernel) (by decide +kernel)
set_option maxRecDepth 20000 in
theorem gX0_findValleys_X0_isFalling : GoodIn wsX0_findValleys (wsV RX0 124 RX0 yX0_isFalling wsX0_isFalling) := goodIn_app (goodIn_of _ (by decide +kernel)) ggX0_findValleys_X0_isFalling
set_option maxRecDepth 20000 in
theorem ggX0_findValleys_X2_put : GoodIn wsX0_findValleys wsX2_put := goodIn_r _ [17] (by decide +kernel) (by decide +kernel)
set_option maxRecDepth 20000 in
theorem gX0_findValleys_X2_put_n127 : GoodIn wsX0_findValleys (wsX2_put) := ggX0_findValleys_X2_put
theorem dX0_findValleys_0 : decode cX0_findValleys 0 = .ok (.aload_n 0, 1) := by decide +kernel
theorem dX0_findValleys_1 : decode cX0_findValleys 1 = .ok (.iconst 0, 1) := by decide +kernel
theorem dX0_findValleys_2 : decode cX0_findValleys 2 = .ok (.putfield 97, 3) := by decide +kernel
theorem dX0_findValleys_5 : decode cX0_findValleys 5 = .ok (.iconst 0, 1) := by decide +kernel
theorem dX0_findValleys_6 : decode cX0_findValleys 6 = .ok (.istore_n 1, 1) := by decide +kernel
theorem dX0_findValleys_7 : decode cX0_findValleys 7 = .ok (.iload_n 1, 1) := by decide +kernel
theorem dX0_findValleys_8 : decode cX0_findValleys 8 = .ok (.aload_n 0, 1) := by decide +kernel
theorem dX0_findValleys_9 : decode cX0_findValleys 9 = .ok (.getfield 103, 3) := by decide +kernel
theorem dX0_findValleys_12 : decode cX0_findValleys 12 = .ok (.if_icmp .ge 77, 3) := by decide +kernel
theorem dX0_findValleys_15 : decode cX0_findValleys 15 = .ok (.aload_n 0, 1) := by decide +kernel
theorem dX0_findValleys_16 : decode cX0_findValleys 16 = .ok (.iload_n 1, 1) := by decide +kernel
theorem dX0_findValleys_17 : decode cX0_findValleys 17 = .ok (.invokevirtual 120, 3) := by decide +kernel
theorem dX0_findValleys_20 : decode cX0_findValleys 20 = .ok (.ifCond .eq 17, 3) := by decide +kernel
theorem dX0_findValleys_23 : decode cX0_findValleys 23 = .ok (.aload_n 0, 1) := by decide +kernel
theorem dX0_findValleys_24 : decode cX0_findValleys 24 = .ok (.iload_n 1, 1) := by decide +kernel
theorem dX0_findValleys_25 : decode cX0_findValleys 25 = .ok (.iconst 1, 1) := by decide +kernel
theorem dX0_findValleys_26 : decode cX0_findValleys 26 = .ok (.isub, 1) := by decide +kernel
theorem dX0_findValleys_27 : decode cX0_findValleys 27 = .ok (.invokevirtual 124, 3) := by decide +kernel
theorem dX0_findValleys_30 : decode cX0_findValleys 30 = .ok (.ifCond .eq 7, 3) := by decide +kernel
theorem dX0_findValleys_33 : decode cX0_findValleys 33 = .ok (.iconst 1, 1) := by decide +kernel
theorem dX0_findValleys_34 : decode cX0_findValleys 34 = .ok (.goto 4, 3) := by decide +kernel
theorem dX0_findValleys_37 : decode cX0_findValleys 37 = .ok (.iconst 0, 1) := by decide +kernel
theorem dX0_findValleys_38 : decode cX0_findValleys 38 = .ok (.istore_n 2, 1) := by decide +kernel
theorem dX0_findValleys_39 : decode cX0_findValleys 39 = .ok (.aload_n 0, 1) := by decide +kernel
theorem dX0_findValleys_40 : decode cX0_findValleys 40 = .ok (.getfield 49, 3) := by decide +kernel
theorem dX0_findValleys_43 : decode cX0_findValleys 43 = .ok (.iload_n 1, 1) := by decide +kernel
theorem dX0_findValleys_44 : decode cX0_findValleys 44 = .ok (.iload_n 2, 1) := by decide +kernel
theorem dX0_findValleys_45 : decode cX0_findValleys 45 = .ok (.ifCond .eq 10, 3) := by decide +kernel
theorem dX0_findValleys_48 : decode cX0_findValleys 48 = .ok (.aload_n 0, 1) := by decide +kernel
theorem dX0_findValleys_49 : decode cX0_findValleys 49 = .ok (.getfield 97, 3) := by decide +kernel
theorem dX0_findValleys_52 : decode cX0_findValleys 52 = .ok (.goto 4, 3) := by decide +kernel
theorem dX0_findValleys_55 : decode cX0_findValleys 55 = .ok (.iconst (-1), 1) := by decide +kernel
theorem dX0_findValleys_56 : decode cX0_findValleys 56 = .ok (.iastore, 1) := by decide +kernel
theorem dX0_findValleys_57 : decode cX0_findValleys 57 = .ok (.iload_n 2, 1) := by decide +kernel
theorem dX0_findValleys_58 : decode cX0_findValleys 58 = .ok (.ifCond .eq 25, 3) := by decide +kernel
theorem dX0_findValleys_61 : decode cX0_findValleys 61 = .ok (.aload_n 0, 1) := by decide +kernel
theorem dX0_findValleys_62 : decode cX0_findValleys 62 = .ok (.getfield 52, 3) := by decide +kernel
theorem dX0_findValleys_65 : decode cX0_findValleys 65 = .ok (.aload_n 0, 1) := by decide +kernel
theorem dX0_findValleys_66 : decode cX0_findValleys 66 = .ok (.getfield 97, 3) := by decide +kernel
theorem dX0_findValleys_69 : decode cX0_findValleys 69 = .ok (.iload_n 1, 1) := by decide +kernel
theorem dX0_findValleys_70 : decode cX0_findValleys 70 = .ok (.invokestatic 127, 3) := by decide +kernel
theorem dX0_findValleys_73 : decode cX0_findValleys 73 = .ok (.aload_n 0, 1) := by decide +kernel
theorem dX0_findValleys_74 : decode cX0_findValleys 74 = .ok (.dup, 1) := by decide +kernel
theorem dX0_findValleys_75 : decode cX0_findValleys 75 = .ok (.getfield 97, 3) := by decide +kernel
theorem dX0_findValleys_78 : decode cX0_findValleys 78 = .ok (.iconst 1, 1) := by decide +kernel
theorem dX0_findValleys_79 : decode cX0_findValleys 79 = .ok (.iadd, 1) := by decide +kernel
theorem dX0_findValleys_80 : decode cX0_findValleys 80 = .ok (.putfield 97, 3) := by decide +kernel
theorem dX0_findValleys_83 : decode cX0_findValleys 83 = .ok (.iinc 1 1, 3) := by decide +kernel
theorem dX0_findValleys_86 : decode cX0_findValleys 86 = .ok (.goto (-79), 3) := by decide +kernel
theorem dX0_findValleys_89 : decode cX0_findValleys 89 = .ok (.return_, 1) := by decide +kernel
set_option maxRecDepth 20000 in
theorem ggX0_findBuckets_X0_letterAt : GoodIn wsX0_findBuckets wsX0_letterAt := goodIn_r _ [10, 4, 11, 17, 18, 19, 20, 21, 22, 23, 24, 25, 26, 27, 28, 29, 30, 31] (by decide +kernel) (by decide +kernel)
set_option maxRecDepth 20000 in
theorem gX0_findBuckets_X0_letterAt : GoodIn wsX0_findBuckets (wsV RX0 117 RX0 yX0_letterAt wsX0_letterAt) := goodIn_app (goodIn_of _ (by decide +kernel)) ggX0_findBuckets_X0_letterAt
set_option maxRecDepth 20000 in
theorem ggX0_findBuckets_X2_at : GoodIn wsX0_findBuckets wsX2_at := goodIn_r _ [14] (by decide +kernel) (by decide +kernel)
set_option maxRecDepth 20000 in
theorem gX0_findBuckets_X2_at_n131 : GoodIn wsX0_findBuckets (wsX2_at) := ggX0_findBuckets_X2_at
set_option maxRecDepth 20000 in
theorem ggX0_findBuckets_X2_put : GoodIn wsX0_findBuckets wsX2_put := goodIn_r _ [16] (by decide +kernel) (by decide +kernel)
set_option maxRecDepth 20000 in
theorem gX0_findBuckets_X2_put_n127 : GoodIn wsX0_findBuckets (wsX2_put) := ggX0_findBuckets_X2_put
theorem dX0_findBuckets_0 : decode cX0_findBuckets 0 = .ok (.iconst 0, 1) := by decide +kernel
theorem dX0_findBuckets_1 : decode cX0_findBuckets 1 = .ok (.istore_n 1, 1) := by decide +kernel
theorem dX0_findBuckets_2 : decode cX0_findBuckets 2 = .ok (.iload_n 1, 1) := by decide +kernel
theorem dX0_findBuckets_3 : decode cX0_findBuckets 3 = .ok (.aload_n 0, 1) := by decide +kernel
theorem dX0_findBuckets_4 : decode cX0_findBuckets 4 = .ok (.getfield 107, 3) := by decide +kernel
theorem dX0_findBuckets_7 : decode cX0_findBuckets 7 = .ok (.if_icmp .ge 23, 3) := by decide +kernel
theorem dX0_findBuckets_10 : decode cX0_findBuckets 10 = .ok (.aload_n 0, 1) := by decide +kernel
theorem dX0_findBuckets_11 : decode cX0_findBuckets 11 = .ok (.getfield 58, 3) := by decide +kernel
theorem dX0_findBuckets_14 : decode cX0_findBuckets 14 = .ok (.iload_n 1, 1) := by decide +kernel
theorem dX0_findBuckets_15 : decode cX0_findBuckets 15 = .ok (.iconst 0, 1) := by decide +kernel
theorem dX0_findBuckets_16 : decode cX0_findBuckets 16 = .ok (.iastore, 1) := by decide +kernel
theorem dX0_findBuckets_17 : decode cX0_findBuckets 17 = .ok (.aload_n 0, 1) := by decide +kernel
theorem dX0_findBuckets_18 : decode cX0_findBuckets 18 = .ok (.getfield 61, 3) := by decide +kernel
theorem dX0_findBuckets_21 : decode cX0_findBuckets 21 = .ok (.iload_n 1, 1) := by decide +kernel
theorem dX0_findBuckets_22 : decode cX0_findBuckets 22 = .ok (.iconst 0, 1) := by decide +kernel
theorem dX0_findBuckets_23 : decode cX0_findBuckets 23 = .ok (.iastore, 1) := by decide +kernel
theorem dX0_findBuckets_24 : decode cX0_findBuckets 24 = .ok (.iinc 1 1, 3) := by decide +kernel
theorem dX0_findBuckets_27 : decode cX0_findBuckets 27 = .ok (.goto (-25), 3) := by decide +kernel
theorem dX0_findBuckets_30 : decode cX0_findBuckets 30 = .ok (.iconst 0, 1) := by decide +kernel
theorem dX0_findBuckets_31 : decode cX0_findBuckets 31 = .ok (.istore_n 1, 1) := by decide +kernel
theorem dX0_findBuckets_32 : decode cX0_findBuckets 32 = .ok (.iload_n 1, 1) := by decide +kernel
theorem dX0_findBuckets_33 : decode cX0_findBuckets 33 = .ok (.aload_n 0, 1) := by decide +kernel
theorem dX0_findBuckets_34 : decode cX0_findBuckets 34 = .ok (.getfield 103, 3) := by decide +kernel
theorem dX0_findBuckets_37 : decode cX0_findBuckets 37 = .ok (.if_icmp .ge 48, 3) := by decide +kernel
theorem dX0_findBuckets_40 : decode cX0_findBuckets 40 = .ok (.aload_n 0, 1) := by decide +kernel
theorem dX0_findBuckets_41 : decode cX0_findBuckets 41 = .ok (.getfield 45, 3) := by decide +kernel
theorem dX0_findBuckets_44 : decode cX0_findBuckets 44 = .ok (.iload_n 1, 1) := by decide +kernel
theorem dX0_findBuckets_45 : decode cX0_findBuckets 45 = .ok (.baload, 1) := by decide +kernel
theorem dX0_findBuckets_46 : decode cX0_findBuckets 46 = .ok (.ifCond .eq 10, 3) := by decide +kernel
theorem dX0_findBuckets_49 : decode cX0_findBuckets 49 = .ok (.aload_n 0, 1) := by decide +kernel
theorem dX0_findBuckets_50 : decode cX0_findBuckets 50 = .ok (.getfield 61, 3) := by decide +kernel
theorem dX0_findBuckets_53 : decode cX0_findBuckets 53 = .ok (.goto 7, 3) := by decide +kernel
theorem dX0_findBuckets_56 : decode cX0_findBuckets 56 = .ok (.aload_n 0, 1) := by decide +kernel
theorem dX0_findBuckets_57 : decode cX0_findBuckets 57 = .ok (.getfield 58, 3) := by decide +kernel
theorem dX0_findBuckets_60 : decode cX0_findBuckets 60 = .ok (.astore_n 2, 1) := by decide +kernel
theorem dX0_findBuckets_61 : decode cX0_findBuckets 61 = .ok (.aload_n 0, 1) := by decide +kernel
theorem dX0_findBuckets_62 : decode cX0_findBuckets 62 = .ok (.iload_n 1, 1) := by decide +kernel
theorem dX0_findBuckets_63 : decode cX0_findBuckets 63 = .ok (.invokevirtual 117, 3) := by decide +kernel
theorem dX0_findBuckets_66 : decode cX0_findBuckets 66 = .ok (.istore_n 3, 1) := by decide +kernel
theorem dX0_findBuckets_67 : decode cX0_findBuckets 67 = .ok (.aload_n 2, 1) := by decide +kernel
theorem dX0_findBuckets_68 : decode cX0_findBuckets 68 = .ok (.iload_n 3, 1) := by decide +kernel
theorem dX0_findBuckets_69 : decode cX0_findBuckets 69 = .ok (.aload_n 2, 1) := by decide +kernel
theorem dX0_findBuckets_70 : decode cX0_findBuckets 70 = .ok (.iload_n 3, 1) := by decide +kernel
theorem dX0_findBuckets_71 : decode cX0_findBuckets 71 = .ok (.invokestatic 131, 3) := by decide +kernel
theorem dX0_findBuckets_74 : decode cX0_findBuckets 74 = .ok (.iconst 1, 1) := by decide +kernel
theorem dX0_findBuckets_75 : decode cX0_findBuckets 75 = .ok (.iadd, 1) := by decide +kernel
theorem dX0_findBuckets_76 : decode cX0_findBuckets 76 = .ok (.invokestatic 127, 3) := by decide +kernel
theorem dX0_findBuckets_79 : decode cX0_findBuckets 79 = .ok (.iinc 1 1, 3) := by decide +kernel
theorem dX0_findBuckets_82 : decode cX0_findBuckets 82 = .ok (.goto (-50), 3) := by decide +kernel
theorem dX0_findBuckets_85 : decode cX0_findBuckets 85 = .ok (.iconst 0, 1) := by decide +kernel
theorem dX0_findBuckets_86 : decode cX0_findBuckets 86 = .ok (.istore_n 1, 1) := by decide +kernel
theorem dX0_findBuckets_87 : decode cX0_findBuckets 87 = .ok (.iconst 0, 1) := by decide +kernel
theorem dX0_findBuckets_88 : decode cX0_findBuckets 88 = .ok (.istore_n 2, 1) := by decide +kernel
theorem dX0_findBuckets_89 : decode cX0_findBuckets 89 = .ok (.iload_n 2, 1) := by decide +kernel
theorem dX0_findBuckets_90 : decode cX0_findBuckets 90 = .ok (.aload_n 0, 1) := by decide +kernel
theorem dX0_findBuckets_91 : decode cX0_findBuckets 91 = .ok (.getfield 107, 3) := by decide +kernel
theorem dX0_findBuckets_94 : decode cX0_findBuckets 94 = .ok (.if_icmp .ge 45, 3) := by decide +kernel
theorem dX0_findBuckets_97 : decode cX0_findBuckets 97 = .ok (.iload_n 1, 1) := by decide +kernel
theorem dX0_findBuckets_98 : decode cX0_findBuckets 98 = .ok (.aload_n 0, 1) := by decide +kernel
theorem dX0_findBuckets_99 : decode cX0_findBuckets 99 = .ok (.getfield 58, 3) := by decide +kernel
theorem dX0_findBuckets_102 : decode cX0_findBuckets 102 = .ok (.iload_n 2, 1) := by decide +kernel
theorem dX0_findBuckets_103 : decode cX0_findBuckets 103 = .ok (.iaload, 1) := by decide +kernel
theorem dX0_findBuckets_104 : decode cX0_findBuckets 104 = .ok (.iadd, 1) := by decide +kernel
theorem dX0_findBuckets_105 : decode cX0_findBuckets 105 = .ok (.istore_n 3, 1) := by decide +kernel
theorem dX0_findBuckets_106 : decode cX0_findBuckets 106 = .ok (.iload_n 3, 1) := by decide +kernel
theorem dX0_findBuckets_107 : decode cX0_findBuckets 107 = .ok (.aload_n 0, 1) := by decide +kernel
theorem dX0_findBuckets_108 : decode cX0_findBuckets 108 = .ok (.getfield 61, 3) := by decide +kernel
theorem dX0_findBuckets_111 : decode cX0_findBuckets 111 = .ok (.iload_n 2, 1) := by decide +kernel
theorem dX0_findBuckets_112 : decode cX0_findBuckets 112 = .ok (.iaload, 1) := by decide +kernel
theorem dX0_findBuckets_113 : decode cX0_findBuckets 113 = .ok (.iadd, 1) := by decide +kernel
theorem dX0_findBuckets_114 : decode cX0_findBuckets 114 = .ok (.istore 4, 2) := by decide +kernel
theorem dX0_findBuckets_116 : decode cX0_findBuckets 116 = .ok (.aload_n 0, 1) := by decide +kernel
theorem dX0_findBuckets_117 : decode cX0_findBuckets 117 = .ok (.getfield 58, 3) := by decide +kernel
theorem dX0_findBuckets_120 : decode cX0_findBuckets 120 = .ok (.iload_n 2, 1) := by decide +kernel
theorem dX0_findBuckets_121 : decode cX0_findBuckets 121 = .ok (.iload_n 1, 1) := by decide +kernel
theorem dX0_findBuckets_122 : decode cX0_findBuckets 122 = .ok (.iastore, 1) := by decide +kernel
theorem dX0_findBuckets_123 : decode cX0_findBuckets 123 = .ok (.aload_n 0, 1) := by decide +kernel
theorem dX0_findBuckets_124 : decode cX0_findBuckets 124 = .ok (.getfield 61, 3) := by decide +kernel
theorem dX0_findBuckets_127 : decode cX0_findBuckets 127 = .ok (.iload_n 2, 1) := by decide +kernel
theorem dX0_findBuckets_128 : decode cX0_findBuckets 128 = .ok (.iload_n 3, 1) := by decide +kernel
theorem dX0_findBuckets_129 : decode cX0_findBuckets 129 = .ok (.iastore, 1) := by decide +kernel
theorem dX0_findBuckets_130 : decode cX0_findBuckets 130 = .ok (.iload 4, 2) := by decide +kernel
theorem dX0_findBuckets_132 : decode cX0_findBuckets 132 = .ok (.istore_n 1, 1) := by decide +kernel
theorem dX0_findBuckets_133 : decode cX0_findBuckets 133 = .ok (.iinc 2 1, 3) := by decide +kernel
theorem dX0_findBuckets_136 : decode cX0_findBuckets 136 = .ok (.goto (-47), 3) := by decide +kernel
theorem dX0_findBuckets_139 : decode cX0_findBuckets 139 = .ok (.aload_n 0, 1) := by decide +kernel
theorem dX0_findBuckets_140 : decode cX0_findBuckets 140 = .ok (.getfield 58, 3) := by decide +kernel
theorem dX0_findBuckets_143 : decode cX0_findBuckets 143 = .ok (.aload_n 0, 1) := by decide +kernel
theorem dX0_findBuckets_144 : decode cX0_findBuckets 144 = .ok (.getfield 107, 3) := by decide +kernel
theorem dX0_findBuckets_147 : decode cX0_findBuckets 147 = .ok (.iload_n 1, 1) := by decide +kernel
theorem dX0_findBuckets_148 : decode cX0_findBuckets 148 = .ok (.iastore, 1) := by decide +kernel
theorem dX0_findBuckets_149 : decode cX0_findBuckets 149 = .ok (.return_, 1) := by decide +kernel
set_option maxRecDepth 20000 in
theorem ggX0_induceFrom_X0_startBuckets : GoodIn wsX0_induceFrom wsX0_startBuckets := goodIn_r _ [9, 10, 11, 12, 13, 14, 48, 49, 50, 51, 52, 53, 54, 55, 56, 57, 58, 59, 60, 61, 62] (by decide +kernel) (by decide +kernel)
set_option maxRecDepth 20000 in
theorem gX0_induceFrom_X0_startBuckets : GoodIn wsX0_induceFrom (wsV RX0 135 RX0 yX0_startBuckets wsX0_startBuckets) := goodIn_app (goodIn_of _ (by decide +kernel)) ggX0_induceFrom_X0_startBuckets
set_option maxRecDepth 20000 in
theorem ggX0_induceFrom_X2_at : GoodIn wsX0_induceFrom wsX2_at := goodIn_r _ [14] (by decide +kernel) (by decide +kernel)
set_option maxRecDepth 20000 in
theorem gX0_induceFrom_X2_at_n131 : GoodIn wsX0_induceFrom (wsX2_at) := ggX0_induceFrom_X2_at
set_option maxRecDepth 20000 in
theorem ggX0_induceFrom_X0_placeFront : GoodIn wsX0_induceFrom wsX0_placeFront := goodIn_r _ [18, 11, 2, 19, 20, 21, 8, 22, 1, 23, 12, 13, 14, 24, 25, 48, 49, 50, 51, 52, 53, 54, 55, 56, 57, 58, 59, 60, 61, 62] (by decide +kernel) (by decide +kernel)
set_option maxRecDepth 20000 in
theorem gX0_induceFrom_X0_placeFront : GoodIn wsX0_induceFrom (wsV RX0 139 RX0 yX0_placeFront wsX0_placeFront) := goodIn_app (goodIn_of _ (by decide +kernel)) ggX0_induceFrom_X0_placeFront
set_option maxRecDepth 20000 in
theorem ggX0_induceFrom_X0_induceFalling : GoodIn wsX0_induceFrom wsX0_induceFalling := goodIn_r _ [29, 30, 1, 2, 5, 6, 7, 8, 9, 10, 11, 12, 13, 14, 15, 16, 17, 18, 19, 20, 21, 22, 23, 24, 25, 31, 32, 33, 34, 35, 48, 49, 50, 51, 52, 53, 54, 55, 56, 57, 58, 59, 60, 61, 62] (by decide +kernel) (by decide +kernel)
set_option maxRecDepth 20000 in
theorem gX0_induceFrom_X0_induceFalling : GoodIn wsX0_induceFrom (wsV RX0 142 RX0 yX0_induceFalling wsX0_induceFalling) := goodIn_app (goodIn_of _ (by decide +kernel)) ggX0_induceFrom_X0_induceFalling
set_option maxRecDepth 20000 in
theorem ggX0_induceFrom_X0_induceRising : GoodIn wsX0_induceFrom wsX0_induceRising := goodIn_r _ [39, 30, 1, 2, 5, 6, 7, 8, 9, 10, 11, 12, 13, 14, 40, 41, 42, 43, 35, 44, 45, 46, 47, 19, 20, 21, 22, 23, 24, 25, 48, 49, 50, 51, 52, 53, 54, 55, 56, 57, 58, 59, 60, 61, 62] (by decide +kernel) (by decide +kernel)
set_option maxRecDepth 20000 in
theorem gX0_induceFrom_X0_induceRising : GoodIn wsX0_induceFrom (wsV RX0 145 RX0 yX0_induceRising wsX0_induceRising) := goodIn_app (goodIn_of _ (by decide +kernel)) ggX0_induceFrom_X0_induceRising
theorem dX0_induceFrom_0 : decode cX0_induceFrom 0 = .ok (.iconst 0, 1) := by decide +kernel
theorem dX0_induceFrom_1 : decode cX0_induceFrom 1 = .ok (.istore_n 2, 1) := by decide +kernel
theorem dX0_induceFrom_2 : decode cX0_induceFrom 2 = .ok (.iload_n 2, 1) := by decide +kernel
theorem dX0_induceFrom_3 : decode cX0_induceFrom 3 = .ok (.aload_n 0, 1) := by decide +kernel
theorem dX0_induceFrom_4 : decode cX0_induceFrom 4 = .ok (.getfield 103, 3) := by decide +kernel
theorem dX0_induceFrom_7 : decode cX0_induceFrom 7 = .ok (.if_icmp .ge 16, 3) := by decide +kernel
theorem dX0_induceFrom_10 : decode cX0_induceFrom 10 = .ok (.aload_n 0, 1) := by decide +kernel
theorem dX0_induceFrom_11 : decode cX0_induceFrom 11 = .ok (.getfield 42, 3) := by decide +kernel
theorem dX0_induceFrom_14 : decode cX0_induceFrom 14 = .ok (.iload_n 2, 1) := by decide +kernel
theorem dX0_induceFrom_15 : decode cX0_induceFrom 15 = .ok (.iconst (-1), 1) := by decide +kernel
theorem dX0_induceFrom_16 : decode cX0_induceFrom 16 = .ok (.iastore, 1) := by decide +kernel
theorem dX0_induceFrom_17 : decode cX0_induceFrom 17 = .ok (.iinc 2 1, 3) := by decide +kernel
theorem dX0_induceFrom_20 : decode cX0_induceFrom 20 = .ok (.goto (-18), 3) := by decide +kernel
theorem dX0_induceFrom_23 : decode cX0_induceFrom 23 = .ok (.aload_n 0, 1) := by decide +kernel
theorem dX0_induceFrom_24 : decode cX0_induceFrom 24 = .ok (.aload_n 0, 1) := by decide +kernel
theorem dX0_induceFrom_25 : decode cX0_induceFrom 25 = .ok (.getfield 61, 3) := by decide +kernel
theorem dX0_induceFrom_28 : decode cX0_induceFrom 28 = .ok (.iconst 0, 1) := by decide +kernel
theorem dX0_induceFrom_29 : decode cX0_induceFrom 29 = .ok (.invokevirtual 135, 3) := by decide +kernel
theorem dX0_induceFrom_32 : decode cX0_induceFrom 32 = .ok (.iconst 0, 1) := by decide +kernel
theorem dX0_induceFrom_33 : decode cX0_induceFrom 33 = .ok (.istore_n 2, 1) := by decide +kernel
theorem dX0_induceFrom_34 : decode cX0_induceFrom 34 = .ok (.iload_n 2, 1) := by decide +kernel
theorem dX0_induceFrom_35 : decode cX0_induceFrom 35 = .ok (.aload_n 0, 1) := by decide +kernel
theorem dX0_induceFrom_36 : decode cX0_induceFrom 36 = .ok (.getfield 97, 3) := by decide +kernel
theorem dX0_induceFrom_39 : decode cX0_induceFrom 39 = .ok (.if_icmp .ge 18, 3) := by decide +kernel
theorem dX0_induceFrom_42 : decode cX0_induceFrom 42 = .ok (.aload_n 0, 1) := by decide +kernel
theorem dX0_induceFrom_43 : decode cX0_induceFrom 43 = .ok (.aload_n 1, 1) := by decide +kernel
theorem dX0_induceFrom_44 : decode cX0_induceFrom 44 = .ok (.iload_n 2, 1) := by decide +kernel
theorem dX0_induceFrom_45 : decode cX0_induceFrom 45 = .ok (.invokestatic 131, 3) := by decide +kernel
theorem dX0_induceFrom_48 : decode cX0_induceFrom 48 = .ok (.invokevirtual 139, 3) := by decide +kernel
theorem dX0_induceFrom_51 : decode cX0_induceFrom 51 = .ok (.iinc 2 1, 3) := by decide +kernel
theorem dX0_induceFrom_54 : decode cX0_induceFrom 54 = .ok (.goto (-20), 3) := by decide +kernel
theorem dX0_induceFrom_57 : decode cX0_induceFrom 57 = .ok (.aload_n 0, 1) := by decide +kernel
theorem dX0_induceFrom_58 : decode cX0_induceFrom 58 = .ok (.invokevirtual 142, 3) := by decide +kernel
theorem dX0_induceFrom_61 : decode cX0_induceFrom 61 = .ok (.aload_n 0, 1) := by decide +kernel
theorem dX0_induceFrom_62 : decode cX0_induceFrom 62 = .ok (.invokevirtual 145, 3) := by decide +kernel
theorem dX0_induceFrom_65 : decode cX0_induceFrom 65 = .ok (.return_, 1) := by decide +kernel
set_option maxRecDepth 20000 in
theorem ggX0_induceFalling_X0_startBuckets : GoodIn wsX0_induceFalling wsX0_startBuckets := goodIn_r _ [8, 9, 10, 11, 12, 13, 30, 31, 32, 33, 34, 35, 36, 37, 38, 39, 40, 41, 42, 43, 44] (by decide +kernel) (by decide +kernel)
set_option maxRecDepth 20000 in
theorem gX0_induceFalling_X0_startBuckets : GoodIn wsX0_induceFalling (wsV RX0 135 RX0 yX0_startBuckets wsX0_startBuckets) := goodIn_app (goodIn_of _ (by decide +kernel)) ggX0_induceFalling_X0_startBuckets
set_option maxRecDepth 20000 in
theorem ggX0_induceFalling_X0_placeFront : GoodIn wsX0_induceFalling wsX0_placeFront := goodIn_r _ [17, 10, 3, 18, 19, 20, 7, 21, 2, 22, 11, 12, 13, 23, 24, 30, 31, 32, 33, 34, 35, 36, 37, 38, 39, 40, 41, 42, 43, 44] (by decide +kernel) (by decide +kernel)
