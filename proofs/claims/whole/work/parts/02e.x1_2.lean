theorem dX1_trays_7 : decode cX1_trays 7 = .ok (.if_icmp .ge 27, 3) := by decide +kernel
theorem dX1_trays_10 : decode cX1_trays 10 = .ok (.iload_n 2, 1) := by decide +kernel
theorem dX1_trays_11 : decode cX1_trays 11 = .ok (.aload_n 0, 1) := by decide +kernel
theorem dX1_trays_12 : decode cX1_trays 12 = .ok (.getfield 19, 3) := by decide +kernel
theorem dX1_trays_15 : decode cX1_trays 15 = .ok (.iload_n 3, 1) := by decide +kernel
theorem dX1_trays_16 : decode cX1_trays 16 = .ok (.iaload, 1) := by decide +kernel
theorem dX1_trays_17 : decode cX1_trays 17 = .ok (.iload_n 1, 1) := by decide +kernel
theorem dX1_trays_18 : decode cX1_trays 18 = .ok (.if_icmp .ne 7, 3) := by decide +kernel
theorem dX1_trays_21 : decode cX1_trays 21 = .ok (.iconst 1, 1) := by decide +kernel
theorem dX1_trays_22 : decode cX1_trays 22 = .ok (.goto 4, 3) := by decide +kernel
theorem dX1_trays_25 : decode cX1_trays 25 = .ok (.iconst 0, 1) := by decide +kernel
theorem dX1_trays_26 : decode cX1_trays 26 = .ok (.iadd, 1) := by decide +kernel
theorem dX1_trays_27 : decode cX1_trays 27 = .ok (.istore_n 2, 1) := by decide +kernel
theorem dX1_trays_28 : decode cX1_trays 28 = .ok (.iinc 3 1, 3) := by decide +kernel
theorem dX1_trays_31 : decode cX1_trays 31 = .ok (.goto (-27), 3) := by decide +kernel
theorem dX1_trays_34 : decode cX1_trays 34 = .ok (.iload_n 2, 1) := by decide +kernel
theorem dX1_trays_35 : decode cX1_trays 35 = .ok (.ireturn, 1) := by decide +kernel
set_option maxRecDepth 20000 in
theorem ggX1_full_X1_cells : GoodIn wsX1_full wsX1_cells := goodIn_r _ [7, 8, 9, 10, 11, 12, 13, 14, 15, 16, 17, 18, 19, 20, 21, 22, 23] (by decide +kernel) (by decide +kernel)
set_option maxRecDepth 20000 in
theorem gX1_full_X1_cells : GoodIn wsX1_full (wsV RX1 54 RX1 yX1_cells wsX1_cells) := goodIn_app (goodIn_of _ (by decide +kernel)) ggX1_full_X1_cells
theorem dX1_full_0 : decode cX1_full 0 = .ok (.iconst 0, 1) := by decide +kernel
theorem dX1_full_1 : decode cX1_full 1 = .ok (.istore_n 2, 1) := by decide +kernel
theorem dX1_full_2 : decode cX1_full 2 = .ok (.iconst 0, 1) := by decide +kernel
theorem dX1_full_3 : decode cX1_full 3 = .ok (.istore_n 3, 1) := by decide +kernel
theorem dX1_full_4 : decode cX1_full 4 = .ok (.iload_n 3, 1) := by decide +kernel
theorem dX1_full_5 : decode cX1_full 5 = .ok (.bipush 20, 2) := by decide +kernel
theorem dX1_full_7 : decode cX1_full 7 = .ok (.if_icmp .ge 41, 3) := by decide +kernel
theorem dX1_full_10 : decode cX1_full 10 = .ok (.iload_n 2, 1) := by decide +kernel
theorem dX1_full_11 : decode cX1_full 11 = .ok (.aload_n 0, 1) := by decide +kernel
theorem dX1_full_12 : decode cX1_full 12 = .ok (.getfield 19, 3) := by decide +kernel
theorem dX1_full_15 : decode cX1_full 15 = .ok (.iload_n 3, 1) := by decide +kernel
theorem dX1_full_16 : decode cX1_full 16 = .ok (.iaload, 1) := by decide +kernel
theorem dX1_full_17 : decode cX1_full 17 = .ok (.iload_n 1, 1) := by decide +kernel
theorem dX1_full_18 : decode cX1_full 18 = .ok (.if_icmp .ne 21, 3) := by decide +kernel
theorem dX1_full_21 : decode cX1_full 21 = .ok (.aload_n 0, 1) := by decide +kernel
theorem dX1_full_22 : decode cX1_full 22 = .ok (.getfield 25, 3) := by decide +kernel
theorem dX1_full_25 : decode cX1_full 25 = .ok (.iload_n 3, 1) := by decide +kernel
theorem dX1_full_26 : decode cX1_full 26 = .ok (.iaload, 1) := by decide +kernel
theorem dX1_full_27 : decode cX1_full 27 = .ok (.aload_n 0, 1) := by decide +kernel
theorem dX1_full_28 : decode cX1_full 28 = .ok (.iload_n 1, 1) := by decide +kernel
theorem dX1_full_29 : decode cX1_full 29 = .ok (.invokevirtual 54, 3) := by decide +kernel
theorem dX1_full_32 : decode cX1_full 32 = .ok (.if_icmp .ne 7, 3) := by decide +kernel
theorem dX1_full_35 : decode cX1_full 35 = .ok (.iconst 1, 1) := by decide +kernel
theorem dX1_full_36 : decode cX1_full 36 = .ok (.goto 4, 3) := by decide +kernel
theorem dX1_full_39 : decode cX1_full 39 = .ok (.iconst 0, 1) := by decide +kernel
theorem dX1_full_40 : decode cX1_full 40 = .ok (.iadd, 1) := by decide +kernel
theorem dX1_full_41 : decode cX1_full 41 = .ok (.istore_n 2, 1) := by decide +kernel
theorem dX1_full_42 : decode cX1_full 42 = .ok (.iinc 3 1, 3) := by decide +kernel
theorem dX1_full_45 : decode cX1_full 45 = .ok (.goto (-41), 3) := by decide +kernel
theorem dX1_full_48 : decode cX1_full 48 = .ok (.iload_n 2, 1) := by decide +kernel
theorem dX1_full_49 : decode cX1_full 49 = .ok (.ireturn, 1) := by decide +kernel
theorem dX1_lying_0 : decode cX1_lying 0 = .ok (.iconst 0, 1) := by decide +kernel
theorem dX1_lying_1 : decode cX1_lying 1 = .ok (.istore_n 2, 1) := by decide +kernel
theorem dX1_lying_2 : decode cX1_lying 2 = .ok (.iconst 0, 1) := by decide +kernel
theorem dX1_lying_3 : decode cX1_lying 3 = .ok (.istore_n 3, 1) := by decide +kernel
theorem dX1_lying_4 : decode cX1_lying 4 = .ok (.iload_n 3, 1) := by decide +kernel
theorem dX1_lying_5 : decode cX1_lying 5 = .ok (.bipush 20, 2) := by decide +kernel
theorem dX1_lying_7 : decode cX1_lying 7 = .ok (.if_icmp .ge 32, 3) := by decide +kernel
theorem dX1_lying_10 : decode cX1_lying 10 = .ok (.iload_n 2, 1) := by decide +kernel
theorem dX1_lying_11 : decode cX1_lying 11 = .ok (.aload_n 0, 1) := by decide +kernel
theorem dX1_lying_12 : decode cX1_lying 12 = .ok (.getfield 19, 3) := by decide +kernel
theorem dX1_lying_15 : decode cX1_lying 15 = .ok (.iload_n 3, 1) := by decide +kernel
theorem dX1_lying_16 : decode cX1_lying 16 = .ok (.iaload, 1) := by decide +kernel
theorem dX1_lying_17 : decode cX1_lying 17 = .ok (.iload_n 1, 1) := by decide +kernel
theorem dX1_lying_18 : decode cX1_lying 18 = .ok (.if_icmp .ne 12, 3) := by decide +kernel
theorem dX1_lying_21 : decode cX1_lying 21 = .ok (.aload_n 0, 1) := by decide +kernel
theorem dX1_lying_22 : decode cX1_lying 22 = .ok (.getfield 25, 3) := by decide +kernel
theorem dX1_lying_25 : decode cX1_lying 25 = .ok (.iload_n 3, 1) := by decide +kernel
theorem dX1_lying_26 : decode cX1_lying 26 = .ok (.iaload, 1) := by decide +kernel
theorem dX1_lying_27 : decode cX1_lying 27 = .ok (.goto 4, 3) := by decide +kernel
theorem dX1_lying_30 : decode cX1_lying 30 = .ok (.iconst 0, 1) := by decide +kernel
theorem dX1_lying_31 : decode cX1_lying 31 = .ok (.iadd, 1) := by decide +kernel
theorem dX1_lying_32 : decode cX1_lying 32 = .ok (.istore_n 2, 1) := by decide +kernel
theorem dX1_lying_33 : decode cX1_lying 33 = .ok (.iinc 3 1, 3) := by decide +kernel
theorem dX1_lying_36 : decode cX1_lying 36 = .ok (.goto (-32), 3) := by decide +kernel
theorem dX1_lying_39 : decode cX1_lying 39 = .ok (.iload_n 2, 1) := by decide +kernel
theorem dX1_lying_40 : decode cX1_lying 40 = .ok (.ireturn, 1) := by decide +kernel
set_option maxRecDepth 20000 in
theorem ggX1_kindTold_X1_trays : GoodIn wsX1_kindTold wsX1_trays := goodIn_r _ [9, 10, 32, 33, 34, 35, 36, 37, 38, 39, 40, 41, 42, 43, 44, 45, 46] (by decide +kernel) (by decide +kernel)
set_option maxRecDepth 20000 in
theorem gX1_kindTold_X1_trays : GoodIn wsX1_kindTold (wsV RX1 131 RX1 yX1_trays wsX1_trays) := goodIn_app (goodIn_of _ (by decide +kernel)) ggX1_kindTold_X1_trays
set_option maxRecDepth 20000 in
theorem ggX1_kindTold_X1_empties : GoodIn wsX1_kindTold wsX1_empties := goodIn_r _ [14, 15, 16, 17, 8, 18, 10, 19, 32, 33, 34, 35, 36, 37, 38, 39, 40, 41, 42, 43, 44, 45, 46] (by decide +kernel) (by decide +kernel)
set_option maxRecDepth 20000 in
theorem gX1_kindTold_X1_empties : GoodIn wsX1_kindTold (wsV RX1 106 RX1 yX1_empties wsX1_empties) := goodIn_app (goodIn_of _ (by decide +kernel)) ggX1_kindTold_X1_empties
set_option maxRecDepth 20000 in
theorem ggX1_kindTold_X1_full : GoodIn wsX1_kindTold wsX1_full := goodIn_r _ [23, 10, 19, 24, 25, 26, 8, 27, 2, 32, 33, 34, 35, 36, 37, 38, 39, 40, 41, 42, 43, 44, 45, 46] (by decide +kernel) (by decide +kernel)
set_option maxRecDepth 20000 in
theorem gX1_kindTold_X1_full : GoodIn wsX1_kindTold (wsV RX1 134 RX1 yX1_full wsX1_full) := goodIn_app (goodIn_of _ (by decide +kernel)) ggX1_kindTold_X1_full
set_option maxRecDepth 20000 in
theorem ggX1_kindTold_X1_lying : GoodIn wsX1_kindTold wsX1_lying := goodIn_r _ [31, 10, 19, 32, 33, 34, 35, 36, 37, 38, 39, 40, 41, 42, 43, 44, 45, 46] (by decide +kernel) (by decide +kernel)
set_option maxRecDepth 20000 in
theorem gX1_kindTold_X1_lying : GoodIn wsX1_kindTold (wsV RX1 137 RX1 yX1_lying wsX1_lying) := goodIn_app (goodIn_of _ (by decide +kernel)) ggX1_kindTold_X1_lying
set_option maxRecDepth 20000 in
theorem ggX1_kindTold_X1_cells : GoodIn wsX1_kindTold wsX1_cells := goodIn_r _ [27, 2, 32, 33, 34, 35, 36, 37, 38, 39, 40, 41, 42, 43, 44, 45, 46] (by decide +kernel) (by decide +kernel)
set_option maxRecDepth 20000 in
theorem gX1_kindTold_X1_cells : GoodIn wsX1_kindTold (wsV RX1 54 RX1 yX1_cells wsX1_cells) := goodIn_app (goodIn_of _ (by decide +kernel)) ggX1_kindTold_X1_cells
theorem dX1_kindTold_0 : decode cX1_kindTold 0 = .ok (.bipush 8, 2) := by decide +kernel
theorem dX1_kindTold_2 : decode cX1_kindTold 2 = .ok (.newarray .int, 2) := by decide +kernel
theorem dX1_kindTold_4 : decode cX1_kindTold 4 = .ok (.dup, 1) := by decide +kernel
theorem dX1_kindTold_5 : decode cX1_kindTold 5 = .ok (.iconst 0, 1) := by decide +kernel
theorem dX1_kindTold_6 : decode cX1_kindTold 6 = .ok (.aload_n 0, 1) := by decide +kernel
theorem dX1_kindTold_7 : decode cX1_kindTold 7 = .ok (.getfield 9, 3) := by decide +kernel
theorem dX1_kindTold_10 : decode cX1_kindTold 10 = .ok (.iload_n 1, 1) := by decide +kernel
theorem dX1_kindTold_11 : decode cX1_kindTold 11 = .ok (.iaload, 1) := by decide +kernel
theorem dX1_kindTold_12 : decode cX1_kindTold 12 = .ok (.iastore, 1) := by decide +kernel
theorem dX1_kindTold_13 : decode cX1_kindTold 13 = .ok (.dup, 1) := by decide +kernel
theorem dX1_kindTold_14 : decode cX1_kindTold 14 = .ok (.iconst 1, 1) := by decide +kernel
theorem dX1_kindTold_15 : decode cX1_kindTold 15 = .ok (.aload_n 0, 1) := by decide +kernel
theorem dX1_kindTold_16 : decode cX1_kindTold 16 = .ok (.getfield 13, 3) := by decide +kernel
theorem dX1_kindTold_19 : decode cX1_kindTold 19 = .ok (.iload_n 1, 1) := by decide +kernel
theorem dX1_kindTold_20 : decode cX1_kindTold 20 = .ok (.iaload, 1) := by decide +kernel
theorem dX1_kindTold_21 : decode cX1_kindTold 21 = .ok (.iastore, 1) := by decide +kernel
theorem dX1_kindTold_22 : decode cX1_kindTold 22 = .ok (.dup, 1) := by decide +kernel
theorem dX1_kindTold_23 : decode cX1_kindTold 23 = .ok (.iconst 2, 1) := by decide +kernel
theorem dX1_kindTold_24 : decode cX1_kindTold 24 = .ok (.aload_n 0, 1) := by decide +kernel
theorem dX1_kindTold_25 : decode cX1_kindTold 25 = .ok (.iload_n 1, 1) := by decide +kernel
theorem dX1_kindTold_26 : decode cX1_kindTold 26 = .ok (.invokevirtual 131, 3) := by decide +kernel
theorem dX1_kindTold_29 : decode cX1_kindTold 29 = .ok (.iastore, 1) := by decide +kernel
theorem dX1_kindTold_30 : decode cX1_kindTold 30 = .ok (.dup, 1) := by decide +kernel
theorem dX1_kindTold_31 : decode cX1_kindTold 31 = .ok (.iconst 3, 1) := by decide +kernel
theorem dX1_kindTold_32 : decode cX1_kindTold 32 = .ok (.aload_n 0, 1) := by decide +kernel
theorem dX1_kindTold_33 : decode cX1_kindTold 33 = .ok (.iload_n 1, 1) := by decide +kernel
theorem dX1_kindTold_34 : decode cX1_kindTold 34 = .ok (.invokevirtual 106, 3) := by decide +kernel
theorem dX1_kindTold_37 : decode cX1_kindTold 37 = .ok (.iastore, 1) := by decide +kernel
theorem dX1_kindTold_38 : decode cX1_kindTold 38 = .ok (.dup, 1) := by decide +kernel
theorem dX1_kindTold_39 : decode cX1_kindTold 39 = .ok (.iconst 4, 1) := by decide +kernel
theorem dX1_kindTold_40 : decode cX1_kindTold 40 = .ok (.aload_n 0, 1) := by decide +kernel
theorem dX1_kindTold_41 : decode cX1_kindTold 41 = .ok (.iload_n 1, 1) := by decide +kernel
theorem dX1_kindTold_42 : decode cX1_kindTold 42 = .ok (.invokevirtual 134, 3) := by decide +kernel
theorem dX1_kindTold_45 : decode cX1_kindTold 45 = .ok (.iastore, 1) := by decide +kernel
theorem dX1_kindTold_46 : decode cX1_kindTold 46 = .ok (.dup, 1) := by decide +kernel
theorem dX1_kindTold_47 : decode cX1_kindTold 47 = .ok (.iconst 5, 1) := by decide +kernel
theorem dX1_kindTold_48 : decode cX1_kindTold 48 = .ok (.aload_n 0, 1) := by decide +kernel
theorem dX1_kindTold_49 : decode cX1_kindTold 49 = .ok (.iload_n 1, 1) := by decide +kernel
theorem dX1_kindTold_50 : decode cX1_kindTold 50 = .ok (.invokevirtual 137, 3) := by decide +kernel
theorem dX1_kindTold_53 : decode cX1_kindTold 53 = .ok (.iastore, 1) := by decide +kernel
theorem dX1_kindTold_54 : decode cX1_kindTold 54 = .ok (.dup, 1) := by decide +kernel
theorem dX1_kindTold_55 : decode cX1_kindTold 55 = .ok (.bipush 6, 2) := by decide +kernel
theorem dX1_kindTold_57 : decode cX1_kindTold 57 = .ok (.aload_n 0, 1) := by decide +kernel
theorem dX1_kindTold_58 : decode cX1_kindTold 58 = .ok (.iload_n 1, 1) := by decide +kernel
theorem dX1_kindTold_59 : decode cX1_kindTold 59 = .ok (.invokevirtual 131, 3) := by decide +kernel
theorem dX1_kindTold_62 : decode cX1_kindTold 62 = .ok (.aload_n 0, 1) := by decide +kernel
theorem dX1_kindTold_63 : decode cX1_kindTold 63 = .ok (.iload_n 1, 1) := by decide +kernel
theorem dX1_kindTold_64 : decode cX1_kindTold 64 = .ok (.invokevirtual 54, 3) := by decide +kernel
theorem dX1_kindTold_67 : decode cX1_kindTold 67 = .ok (.imul, 1) := by decide +kernel
theorem dX1_kindTold_68 : decode cX1_kindTold 68 = .ok (.aload_n 0, 1) := by decide +kernel
theorem dX1_kindTold_69 : decode cX1_kindTold 69 = .ok (.iload_n 1, 1) := by decide +kernel
theorem dX1_kindTold_70 : decode cX1_kindTold 70 = .ok (.invokevirtual 137, 3) := by decide +kernel
theorem dX1_kindTold_73 : decode cX1_kindTold 73 = .ok (.isub, 1) := by decide +kernel
theorem dX1_kindTold_74 : decode cX1_kindTold 74 = .ok (.iastore, 1) := by decide +kernel
theorem dX1_kindTold_75 : decode cX1_kindTold 75 = .ok (.dup, 1) := by decide +kernel
theorem dX1_kindTold_76 : decode cX1_kindTold 76 = .ok (.bipush 7, 2) := by decide +kernel
theorem dX1_kindTold_78 : decode cX1_kindTold 78 = .ok (.aload_n 0, 1) := by decide +kernel
theorem dX1_kindTold_79 : decode cX1_kindTold 79 = .ok (.getfield 16, 3) := by decide +kernel
theorem dX1_kindTold_82 : decode cX1_kindTold 82 = .ok (.iload_n 1, 1) := by decide +kernel
theorem dX1_kindTold_83 : decode cX1_kindTold 83 = .ok (.iaload, 1) := by decide +kernel
theorem dX1_kindTold_84 : decode cX1_kindTold 84 = .ok (.iastore, 1) := by decide +kernel
theorem dX1_kindTold_85 : decode cX1_kindTold 85 = .ok (.astore_n 3, 1) := by decide +kernel
theorem dX1_kindTold_86 : decode cX1_kindTold 86 = .ok (.aload_n 3, 1) := by decide +kernel
theorem dX1_kindTold_87 : decode cX1_kindTold 87 = .ok (.iload_n 2, 1) := by decide +kernel
theorem dX1_kindTold_88 : decode cX1_kindTold 88 = .ok (.iaload, 1) := by decide +kernel
theorem dX1_kindTold_89 : decode cX1_kindTold 89 = .ok (.ireturn, 1) := by decide +kernel
set_option maxRecDepth 20000 in
theorem ggX1_about_X1_isKind : GoodIn wsX1_about wsX1_isKind := goodIn_r _ [6, 7, 8, 9, 5, 10, 49, 50, 51, 52, 53, 54, 55, 56, 57, 58, 59, 60, 61, 62, 63] (by decide +kernel) (by decide +kernel)
set_option maxRecDepth 20000 in
theorem gX1_about_X1_isKind : GoodIn wsX1_about (wsV RX1 81 RX1 yX1_isKind wsX1_isKind) := goodIn_app (goodIn_of _ (by decide +kernel)) ggX1_about_X1_isKind
set_option maxRecDepth 20000 in
theorem ggX1_about_X1_isIn : GoodIn wsX1_about wsX1_isIn := goodIn_r _ [10] (by decide +kernel) (by decide +kernel)
set_option maxRecDepth 20000 in
theorem gX1_about_X1_isIn : GoodIn wsX1_about (va_wsS RX1 47 yX1_isIn wsX1_isIn) := goodIn_app (goodIn_of _ (by decide +kernel)) ggX1_about_X1_isIn
set_option maxRecDepth 20000 in
theorem ggX1_about_X1_kindTold : GoodIn wsX1_about wsX1_kindTold := goodIn_r _ [14, 15, 16, 17, 18, 19, 20, 21, 5, 22, 23, 24, 25, 26, 27, 28, 29, 30, 31, 32, 33, 34, 35, 36, 37, 38, 39, 40, 41, 42, 43, 44, 49, 50, 51, 52, 53, 54, 55, 56, 57, 58, 59, 60, 61, 62, 63] (by decide +kernel) (by decide +kernel)
set_option maxRecDepth 20000 in
theorem gX1_about_X1_kindTold : GoodIn wsX1_about (wsV RX1 140 RX1 yX1_kindTold wsX1_kindTold) := goodIn_app (goodIn_of _ (by decide +kernel)) ggX1_about_X1_kindTold
set_option maxRecDepth 20000 in
theorem ggX1_about_X1_no : GoodIn wsX1_about wsX1_no := goodIn_r _ [48, 1, 49, 50, 51, 52, 53, 54, 55, 56, 57, 58, 59, 60, 61, 62, 63] (by decide +kernel) (by decide +kernel)
set_option maxRecDepth 20000 in
theorem gX1_about_X1_no : GoodIn wsX1_about (wsV RX1 78 RX1 yX1_no wsX1_no) := goodIn_app (goodIn_of _ (by decide +kernel)) ggX1_about_X1_no
theorem dX1_about_0 : decode cX1_about 0 = .ok (.aload_n 0, 1) := by decide +kernel
theorem dX1_about_1 : decode cX1_about 1 = .ok (.iconst 0, 1) := by decide +kernel
theorem dX1_about_2 : decode cX1_about 2 = .ok (.putfield 40, 3) := by decide +kernel
theorem dX1_about_5 : decode cX1_about 5 = .ok (.aload_n 0, 1) := by decide +kernel
theorem dX1_about_6 : decode cX1_about 6 = .ok (.iload_n 1, 1) := by decide +kernel
theorem dX1_about_7 : decode cX1_about 7 = .ok (.invokevirtual 81, 3) := by decide +kernel
theorem dX1_about_10 : decode cX1_about 10 = .ok (.ifCond .eq 22, 3) := by decide +kernel
theorem dX1_about_13 : decode cX1_about 13 = .ok (.iload_n 2, 1) := by decide +kernel
theorem dX1_about_14 : decode cX1_about 14 = .ok (.iconst 0, 1) := by decide +kernel
theorem dX1_about_15 : decode cX1_about 15 = .ok (.bipush 7, 2) := by decide +kernel
theorem dX1_about_17 : decode cX1_about 17 = .ok (.invokestatic 47, 3) := by decide +kernel
theorem dX1_about_20 : decode cX1_about 20 = .ok (.ifCond .eq 12, 3) := by decide +kernel
theorem dX1_about_23 : decode cX1_about 23 = .ok (.aload_n 0, 1) := by decide +kernel
theorem dX1_about_24 : decode cX1_about 24 = .ok (.iload_n 1, 1) := by decide +kernel
theorem dX1_about_25 : decode cX1_about 25 = .ok (.iload_n 2, 1) := by decide +kernel
theorem dX1_about_26 : decode cX1_about 26 = .ok (.invokevirtual 140, 3) := by decide +kernel
theorem dX1_about_29 : decode cX1_about 29 = .ok (.goto 8, 3) := by decide +kernel
theorem dX1_about_32 : decode cX1_about 32 = .ok (.aload_n 0, 1) := by decide +kernel
theorem dX1_about_33 : decode cX1_about 33 = .ok (.iconst 1, 1) := by decide +kernel
theorem dX1_about_34 : decode cX1_about 34 = .ok (.invokevirtual 78, 3) := by decide +kernel
theorem dX1_about_37 : decode cX1_about 37 = .ok (.ireturn, 1) := by decide +kernel
set_option maxRecDepth 20000 in
theorem ggX1_counted_X1_wasted : GoodIn wsX1_counted wsX1_wasted := goodIn_r _ [12, 1, 13, 2, 14, 15, 16, 17, 18, 19, 20, 21, 22, 23, 24, 25, 26, 27, 28] (by decide +kernel) (by decide +kernel)
set_option maxRecDepth 20000 in
theorem gX1_counted_X1_wasted : GoodIn wsX1_counted (wsV RX1 125 RX1 yX1_wasted wsX1_wasted) := goodIn_app (goodIn_of _ (by decide +kernel)) ggX1_counted_X1_wasted
theorem dX1_counted_0 : decode cX1_counted 0 = .ok (.iconst 0, 1) := by decide +kernel
theorem dX1_counted_1 : decode cX1_counted 1 = .ok (.istore_n 2, 1) := by decide +kernel
theorem dX1_counted_2 : decode cX1_counted 2 = .ok (.iconst 0, 1) := by decide +kernel
theorem dX1_counted_3 : decode cX1_counted 3 = .ok (.istore_n 3, 1) := by decide +kernel
theorem dX1_counted_4 : decode cX1_counted 4 = .ok (.iconst 0, 1) := by decide +kernel
theorem dX1_counted_5 : decode cX1_counted 5 = .ok (.istore 4, 2) := by decide +kernel
theorem dX1_counted_7 : decode cX1_counted 7 = .ok (.iconst 0, 1) := by decide +kernel
theorem dX1_counted_8 : decode cX1_counted 8 = .ok (.istore 5, 2) := by decide +kernel
theorem dX1_counted_10 : decode cX1_counted 10 = .ok (.iload 5, 2) := by decide +kernel
theorem dX1_counted_12 : decode cX1_counted 12 = .ok (.bipush 20, 2) := by decide +kernel
theorem dX1_counted_14 : decode cX1_counted 14 = .ok (.if_icmp .ge 47, 3) := by decide +kernel
theorem dX1_counted_17 : decode cX1_counted 17 = .ok (.aload_n 0, 1) := by decide +kernel
theorem dX1_counted_18 : decode cX1_counted 18 = .ok (.getfield 19, 3) := by decide +kernel
theorem dX1_counted_21 : decode cX1_counted 21 = .ok (.iload 5, 2) := by decide +kernel
theorem dX1_counted_23 : decode cX1_counted 23 = .ok (.iaload, 1) := by decide +kernel
theorem dX1_counted_24 : decode cX1_counted 24 = .ok (.iconst (-1), 1) := by decide +kernel
theorem dX1_counted_25 : decode cX1_counted 25 = .ok (.if_icmp .ne 6, 3) := by decide +kernel
theorem dX1_counted_28 : decode cX1_counted 28 = .ok (.goto 27, 3) := by decide +kernel
theorem dX1_counted_31 : decode cX1_counted 31 = .ok (.iinc 2 1, 3) := by decide +kernel
theorem dX1_counted_34 : decode cX1_counted 34 = .ok (.iload_n 3, 1) := by decide +kernel
theorem dX1_counted_35 : decode cX1_counted 35 = .ok (.aload_n 0, 1) := by decide +kernel
theorem dX1_counted_36 : decode cX1_counted 36 = .ok (.getfield 25, 3) := by decide +kernel
theorem dX1_counted_39 : decode cX1_counted 39 = .ok (.iload 5, 2) := by decide +kernel
theorem dX1_counted_41 : decode cX1_counted 41 = .ok (.iaload, 1) := by decide +kernel
theorem dX1_counted_42 : decode cX1_counted 42 = .ok (.iadd, 1) := by decide +kernel
theorem dX1_counted_43 : decode cX1_counted 43 = .ok (.istore_n 3, 1) := by decide +kernel
theorem dX1_counted_44 : decode cX1_counted 44 = .ok (.iload 4, 2) := by decide +kernel
theorem dX1_counted_46 : decode cX1_counted 46 = .ok (.aload_n 0, 1) := by decide +kernel
theorem dX1_counted_47 : decode cX1_counted 47 = .ok (.iload 5, 2) := by decide +kernel
theorem dX1_counted_49 : decode cX1_counted 49 = .ok (.invokevirtual 125, 3) := by decide +kernel
theorem dX1_counted_52 : decode cX1_counted 52 = .ok (.iadd, 1) := by decide +kernel
theorem dX1_counted_53 : decode cX1_counted 53 = .ok (.istore 4, 2) := by decide +kernel
theorem dX1_counted_55 : decode cX1_counted 55 = .ok (.iinc 5 1, 3) := by decide +kernel
theorem dX1_counted_58 : decode cX1_counted 58 = .ok (.goto (-48), 3) := by decide +kernel
theorem dX1_counted_61 : decode cX1_counted 61 = .ok (.bipush 7, 2) := by decide +kernel
theorem dX1_counted_63 : decode cX1_counted 63 = .ok (.newarray .int, 2) := by decide +kernel
theorem dX1_counted_65 : decode cX1_counted 65 = .ok (.dup, 1) := by decide +kernel
theorem dX1_counted_66 : decode cX1_counted 66 = .ok (.iconst 0, 1) := by decide +kernel
theorem dX1_counted_67 : decode cX1_counted 67 = .ok (.aload_n 0, 1) := by decide +kernel
theorem dX1_counted_68 : decode cX1_counted 68 = .ok (.getfield 44, 3) := by decide +kernel
theorem dX1_counted_71 : decode cX1_counted 71 = .ok (.iastore, 1) := by decide +kernel
theorem dX1_counted_72 : decode cX1_counted 72 = .ok (.dup, 1) := by decide +kernel
theorem dX1_counted_73 : decode cX1_counted 73 = .ok (.iconst 1, 1) := by decide +kernel
theorem dX1_counted_74 : decode cX1_counted 74 = .ok (.iload_n 2, 1) := by decide +kernel
theorem dX1_counted_75 : decode cX1_counted 75 = .ok (.iastore, 1) := by decide +kernel
theorem dX1_counted_76 : decode cX1_counted 76 = .ok (.dup, 1) := by decide +kernel
theorem dX1_counted_77 : decode cX1_counted 77 = .ok (.iconst 2, 1) := by decide +kernel
theorem dX1_counted_78 : decode cX1_counted 78 = .ok (.iload_n 3, 1) := by decide +kernel
theorem dX1_counted_79 : decode cX1_counted 79 = .ok (.iastore, 1) := by decide +kernel
theorem dX1_counted_80 : decode cX1_counted 80 = .ok (.dup, 1) := by decide +kernel
theorem dX1_counted_81 : decode cX1_counted 81 = .ok (.iconst 3, 1) := by decide +kernel
theorem dX1_counted_82 : decode cX1_counted 82 = .ok (.aload_n 0, 1) := by decide +kernel
theorem dX1_counted_83 : decode cX1_counted 83 = .ok (.getfield 51, 3) := by decide +kernel
theorem dX1_counted_86 : decode cX1_counted 86 = .ok (.iastore, 1) := by decide +kernel
theorem dX1_counted_87 : decode cX1_counted 87 = .ok (.dup, 1) := by decide +kernel
theorem dX1_counted_88 : decode cX1_counted 88 = .ok (.iconst 4, 1) := by decide +kernel
theorem dX1_counted_89 : decode cX1_counted 89 = .ok (.iload 4, 2) := by decide +kernel
theorem dX1_counted_91 : decode cX1_counted 91 = .ok (.iastore, 1) := by decide +kernel
theorem dX1_counted_92 : decode cX1_counted 92 = .ok (.dup, 1) := by decide +kernel
theorem dX1_counted_93 : decode cX1_counted 93 = .ok (.iconst 5, 1) := by decide +kernel
theorem dX1_counted_94 : decode cX1_counted 94 = .ok (.aload_n 0, 1) := by decide +kernel
theorem dX1_counted_95 : decode cX1_counted 95 = .ok (.getfield 75, 3) := by decide +kernel
theorem dX1_counted_98 : decode cX1_counted 98 = .ok (.iastore, 1) := by decide +kernel
theorem dX1_counted_99 : decode cX1_counted 99 = .ok (.dup, 1) := by decide +kernel
theorem dX1_counted_100 : decode cX1_counted 100 = .ok (.bipush 6, 2) := by decide +kernel
theorem dX1_counted_102 : decode cX1_counted 102 = .ok (.aload_n 0, 1) := by decide +kernel
theorem dX1_counted_103 : decode cX1_counted 103 = .ok (.getfield 112, 3) := by decide +kernel
theorem dX1_counted_106 : decode cX1_counted 106 = .ok (.iastore, 1) := by decide +kernel
theorem dX1_counted_107 : decode cX1_counted 107 = .ok (.astore 5, 2) := by decide +kernel
theorem dX1_counted_109 : decode cX1_counted 109 = .ok (.aload 5, 2) := by decide +kernel
theorem dX1_counted_111 : decode cX1_counted 111 = .ok (.iload_n 1, 1) := by decide +kernel
theorem dX1_counted_112 : decode cX1_counted 112 = .ok (.iaload, 1) := by decide +kernel
theorem dX1_counted_113 : decode cX1_counted 113 = .ok (.ireturn, 1) := by decide +kernel
set_option maxRecDepth 20000 in
theorem ggX1_count_X1_isIn : GoodIn wsX1_count wsX1_isIn := goodIn_r _ [5] (by decide +kernel) (by decide +kernel)
set_option maxRecDepth 20000 in
theorem gX1_count_X1_isIn : GoodIn wsX1_count (va_wsS RX1 47 yX1_isIn wsX1_isIn) := goodIn_app (goodIn_of _ (by decide +kernel)) ggX1_count_X1_isIn
set_option maxRecDepth 20000 in
theorem ggX1_count_X1_counted : GoodIn wsX1_count wsX1_counted := goodIn_r _ [9, 10, 11, 12, 13, 14, 15, 16, 17, 18, 19, 4, 20, 21, 26, 27, 28, 29, 30, 31, 32, 33, 34, 35, 36, 37, 38, 39, 40] (by decide +kernel) (by decide +kernel)
set_option maxRecDepth 20000 in
theorem gX1_count_X1_counted : GoodIn wsX1_count (wsV RX1 143 RX1 yX1_counted wsX1_counted) := goodIn_app (goodIn_of _ (by decide +kernel)) ggX1_count_X1_counted
set_option maxRecDepth 20000 in
theorem ggX1_count_X1_no : GoodIn wsX1_count wsX1_no := goodIn_r _ [25, 1, 26, 27, 28, 29, 30, 31, 32, 33, 34, 35, 36, 37, 38, 39, 40] (by decide +kernel) (by decide +kernel)
set_option maxRecDepth 20000 in
theorem gX1_count_X1_no : GoodIn wsX1_count (wsV RX1 78 RX1 yX1_no wsX1_no) := goodIn_app (goodIn_of _ (by decide +kernel)) ggX1_count_X1_no
theorem dX1_count_0 : decode cX1_count 0 = .ok (.aload_n 0, 1) := by decide +kernel
theorem dX1_count_1 : decode cX1_count 1 = .ok (.iconst 0, 1) := by decide +kernel
theorem dX1_count_2 : decode cX1_count 2 = .ok (.putfield 40, 3) := by decide +kernel
theorem dX1_count_5 : decode cX1_count 5 = .ok (.iload_n 1, 1) := by decide +kernel
theorem dX1_count_6 : decode cX1_count 6 = .ok (.iconst 0, 1) := by decide +kernel
theorem dX1_count_7 : decode cX1_count 7 = .ok (.bipush 6, 2) := by decide +kernel
theorem dX1_count_9 : decode cX1_count 9 = .ok (.invokestatic 47, 3) := by decide +kernel
theorem dX1_count_12 : decode cX1_count 12 = .ok (.ifCond .eq 11, 3) := by decide +kernel
theorem dX1_count_15 : decode cX1_count 15 = .ok (.aload_n 0, 1) := by decide +kernel
theorem dX1_count_16 : decode cX1_count 16 = .ok (.iload_n 1, 1) := by decide +kernel
theorem dX1_count_17 : decode cX1_count 17 = .ok (.invokevirtual 143, 3) := by decide +kernel
theorem dX1_count_20 : decode cX1_count 20 = .ok (.goto 8, 3) := by decide +kernel
theorem dX1_count_23 : decode cX1_count 23 = .ok (.aload_n 0, 1) := by decide +kernel
theorem dX1_count_24 : decode cX1_count 24 = .ok (.iconst 1, 1) := by decide +kernel
theorem dX1_count_25 : decode cX1_count 25 = .ok (.invokevirtual 78, 3) := by decide +kernel
theorem dX1_count_28 : decode cX1_count 28 = .ok (.ireturn, 1) := by decide +kernel
set_option maxRecDepth 20000 in
theorem ggX1_would_X1_isKind : GoodIn wsX1_would wsX1_isKind := goodIn_r _ [6, 7, 8, 9, 5, 10, 46, 47, 48, 49, 50, 51, 52, 53, 54, 55, 56, 57, 58, 59, 60] (by decide +kernel) (by decide +kernel)
set_option maxRecDepth 20000 in
theorem gX1_would_X1_isKind : GoodIn wsX1_would (wsV RX1 81 RX1 yX1_isKind wsX1_isKind) := goodIn_app (goodIn_of _ (by decide +kernel)) ggX1_would_X1_isKind
set_option maxRecDepth 20000 in
theorem ggX1_would_X1_goesTo : GoodIn wsX1_would wsX1_goesTo := goodIn_r _ [14, 15, 16, 17, 5, 18, 19, 20, 21, 22, 23, 24, 25, 26, 27, 28, 29, 30, 31, 32, 33, 34, 35, 36, 37, 38, 39, 40, 41, 46, 47, 48, 49, 50, 51, 52, 53, 54, 55, 56, 57, 58, 59, 60] (by decide +kernel) (by decide +kernel)
set_option maxRecDepth 20000 in
theorem gX1_would_X1_goesTo : GoodIn wsX1_would (wsV RX1 85 RX1 yX1_goesTo wsX1_goesTo) := goodIn_app (goodIn_of _ (by decide +kernel)) ggX1_would_X1_goesTo
set_option maxRecDepth 20000 in
theorem ggX1_would_X1_no : GoodIn wsX1_would wsX1_no := goodIn_r _ [45, 1, 46, 47, 48, 49, 50, 51, 52, 53, 54, 55, 56, 57, 58, 59, 60] (by decide +kernel) (by decide +kernel)
set_option maxRecDepth 20000 in
theorem gX1_would_X1_no : GoodIn wsX1_would (wsV RX1 78 RX1 yX1_no wsX1_no) := goodIn_app (goodIn_of _ (by decide +kernel)) ggX1_would_X1_no
theorem dX1_would_0 : decode cX1_would 0 = .ok (.aload_n 0, 1) := by decide +kernel
theorem dX1_would_1 : decode cX1_would 1 = .ok (.iconst 0, 1) := by decide +kernel
theorem dX1_would_2 : decode cX1_would 2 = .ok (.putfield 40, 3) := by decide +kernel
theorem dX1_would_5 : decode cX1_would 5 = .ok (.aload_n 0, 1) := by decide +kernel
theorem dX1_would_6 : decode cX1_would 6 = .ok (.iload_n 1, 1) := by decide +kernel
theorem dX1_would_7 : decode cX1_would 7 = .ok (.invokevirtual 81, 3) := by decide +kernel
theorem dX1_would_10 : decode cX1_would 10 = .ok (.ifCond .eq 11, 3) := by decide +kernel
theorem dX1_would_13 : decode cX1_would 13 = .ok (.aload_n 0, 1) := by decide +kernel
theorem dX1_would_14 : decode cX1_would 14 = .ok (.iload_n 1, 1) := by decide +kernel
theorem dX1_would_15 : decode cX1_would 15 = .ok (.invokevirtual 85, 3) := by decide +kernel
theorem dX1_would_18 : decode cX1_would 18 = .ok (.goto 8, 3) := by decide +kernel
theorem dX1_would_21 : decode cX1_would 21 = .ok (.aload_n 0, 1) := by decide +kernel
theorem dX1_would_22 : decode cX1_would 22 = .ok (.iconst 1, 1) := by decide +kernel
theorem dX1_would_23 : decode cX1_would 23 = .ok (.invokevirtual 78, 3) := by decide +kernel
theorem dX1_would_26 : decode cX1_would 26 = .ok (.ireturn, 1) := by decide +kernel
set_option maxRecDepth 20000 in
theorem ggX1_spares_X1_isKind : GoodIn wsX1_spares wsX1_isKind := goodIn_r _ [6, 7, 8, 9, 5, 10, 30, 31, 32, 33, 34, 35, 36, 37, 38, 39, 40, 41, 42, 43, 44] (by decide +kernel) (by decide +kernel)
set_option maxRecDepth 20000 in
theorem gX1_spares_X1_isKind : GoodIn wsX1_spares (wsV RX1 81 RX1 yX1_isKind wsX1_isKind) := goodIn_app (goodIn_of _ (by decide +kernel)) ggX1_spares_X1_isKind
set_option maxRecDepth 20000 in
theorem ggX1_spares_X1_no : GoodIn wsX1_spares wsX1_no := goodIn_r _ [14, 1, 30, 31, 32, 33, 34, 35, 36, 37, 38, 39, 40, 41, 42, 43, 44] (by decide +kernel) (by decide +kernel)
set_option maxRecDepth 20000 in
theorem gX1_spares_X1_no : GoodIn wsX1_spares (wsV RX1 78 RX1 yX1_no wsX1_no) := goodIn_app (goodIn_of _ (by decide +kernel)) ggX1_spares_X1_no
set_option maxRecDepth 20000 in
theorem ggX1_spares_X1_trays : GoodIn wsX1_spares wsX1_trays := goodIn_r _ [18, 19, 30, 31, 32, 33, 34, 35, 36, 37, 38, 39, 40, 41, 42, 43, 44] (by decide +kernel) (by decide +kernel)
set_option maxRecDepth 20000 in
theorem gX1_spares_X1_trays : GoodIn wsX1_spares (wsV RX1 131 RX1 yX1_trays wsX1_trays) := goodIn_app (goodIn_of _ (by decide +kernel)) ggX1_spares_X1_trays
set_option maxRecDepth 20000 in
theorem ggX1_spares_X1_lying : GoodIn wsX1_spares wsX1_lying := goodIn_r _ [23, 19, 24, 30, 31, 32, 33, 34, 35, 36, 37, 38, 39, 40, 41, 42, 43, 44] (by decide +kernel) (by decide +kernel)
set_option maxRecDepth 20000 in
theorem gX1_spares_X1_lying : GoodIn wsX1_spares (wsV RX1 137 RX1 yX1_lying wsX1_lying) := goodIn_app (goodIn_of _ (by decide +kernel)) ggX1_spares_X1_lying
set_option maxRecDepth 20000 in
theorem ggX1_spares_X1_cells : GoodIn wsX1_spares wsX1_cells := goodIn_r _ [28, 29, 30, 31, 32, 33, 34, 35, 36, 37, 38, 39, 40, 41, 42, 43, 44] (by decide +kernel) (by decide +kernel)
set_option maxRecDepth 20000 in
theorem gX1_spares_X1_cells : GoodIn wsX1_spares (wsV RX1 54 RX1 yX1_cells wsX1_cells) := goodIn_app (goodIn_of _ (by decide +kernel)) ggX1_spares_X1_cells
theorem dX1_spares_0 : decode cX1_spares 0 = .ok (.aload_n 0, 1) := by decide +kernel
theorem dX1_spares_1 : decode cX1_spares 1 = .ok (.iconst 0, 1) := by decide +kernel
theorem dX1_spares_2 : decode cX1_spares 2 = .ok (.putfield 40, 3) := by decide +kernel
theorem dX1_spares_5 : decode cX1_spares 5 = .ok (.aload_n 0, 1) := by decide +kernel
theorem dX1_spares_6 : decode cX1_spares 6 = .ok (.iload_n 1, 1) := by decide +kernel
theorem dX1_spares_7 : decode cX1_spares 7 = .ok (.invokevirtual 81, 3) := by decide +kernel
theorem dX1_spares_10 : decode cX1_spares 10 = .ok (.ifCond .ne 9, 3) := by decide +kernel
theorem dX1_spares_13 : decode cX1_spares 13 = .ok (.aload_n 0, 1) := by decide +kernel
theorem dX1_spares_14 : decode cX1_spares 14 = .ok (.iconst 1, 1) := by decide +kernel
theorem dX1_spares_15 : decode cX1_spares 15 = .ok (.invokevirtual 78, 3) := by decide +kernel
theorem dX1_spares_18 : decode cX1_spares 18 = .ok (.ireturn, 1) := by decide +kernel
theorem dX1_spares_19 : decode cX1_spares 19 = .ok (.aload_n 0, 1) := by decide +kernel
theorem dX1_spares_20 : decode cX1_spares 20 = .ok (.iload_n 1, 1) := by decide +kernel
theorem dX1_spares_21 : decode cX1_spares 21 = .ok (.invokevirtual 131, 3) := by decide +kernel
theorem dX1_spares_24 : decode cX1_spares 24 = .ok (.aload_n 0, 1) := by decide +kernel
theorem dX1_spares_25 : decode cX1_spares 25 = .ok (.iload_n 1, 1) := by decide +kernel
theorem dX1_spares_26 : decode cX1_spares 26 = .ok (.invokevirtual 137, 3) := by decide +kernel
theorem dX1_spares_29 : decode cX1_spares 29 = .ok (.aload_n 0, 1) := by decide +kernel
theorem dX1_spares_30 : decode cX1_spares 30 = .ok (.iload_n 1, 1) := by decide +kernel
theorem dX1_spares_31 : decode cX1_spares 31 = .ok (.invokevirtual 54, 3) := by decide +kernel
theorem dX1_spares_34 : decode cX1_spares 34 = .ok (.iadd, 1) := by decide +kernel
theorem dX1_spares_35 : decode cX1_spares 35 = .ok (.iconst 1, 1) := by decide +kernel
theorem dX1_spares_36 : decode cX1_spares 36 = .ok (.isub, 1) := by decide +kernel
theorem dX1_spares_37 : decode cX1_spares 37 = .ok (.aload_n 0, 1) := by decide +kernel
theorem dX1_spares_38 : decode cX1_spares 38 = .ok (.iload_n 1, 1) := by decide +kernel
theorem dX1_spares_39 : decode cX1_spares 39 = .ok (.invokevirtual 54, 3) := by decide +kernel
theorem dX1_spares_42 : decode cX1_spares 42 = .ok (.idiv, 1) := by decide +kernel
theorem dX1_spares_43 : decode cX1_spares 43 = .ok (.isub, 1) := by decide +kernel
theorem dX1_spares_44 : decode cX1_spares 44 = .ok (.ireturn, 1) := by decide +kernel
set_option maxRecDepth 20000 in
theorem ggX1_room_X1_isKind : GoodIn wsX1_room wsX1_isKind := goodIn_r _ [6, 7, 8, 9, 5, 10, 30, 31, 32, 33, 34, 35, 36, 37, 38, 39, 40, 41, 42, 43, 44] (by decide +kernel) (by decide +kernel)
set_option maxRecDepth 20000 in
theorem gX1_room_X1_isKind : GoodIn wsX1_room (wsV RX1 81 RX1 yX1_isKind wsX1_isKind) := goodIn_app (goodIn_of _ (by decide +kernel)) ggX1_room_X1_isKind
set_option maxRecDepth 20000 in
theorem ggX1_room_X1_trays : GoodIn wsX1_room wsX1_trays := goodIn_r _ [14, 15, 30, 31, 32, 33, 34, 35, 36, 37, 38, 39, 40, 41, 42, 43, 44] (by decide +kernel) (by decide +kernel)
set_option maxRecDepth 20000 in
theorem gX1_room_X1_trays : GoodIn wsX1_room (wsV RX1 131 RX1 yX1_trays wsX1_trays) := goodIn_app (goodIn_of _ (by decide +kernel)) ggX1_room_X1_trays
set_option maxRecDepth 20000 in
theorem ggX1_room_X1_cells : GoodIn wsX1_room wsX1_cells := goodIn_r _ [19, 20, 30, 31, 32, 33, 34, 35, 36, 37, 38, 39, 40, 41, 42, 43, 44] (by decide +kernel) (by decide +kernel)
set_option maxRecDepth 20000 in
theorem gX1_room_X1_cells : GoodIn wsX1_room (wsV RX1 54 RX1 yX1_cells wsX1_cells) := goodIn_app (goodIn_of _ (by decide +kernel)) ggX1_room_X1_cells
set_option maxRecDepth 20000 in
theorem ggX1_room_X1_lying : GoodIn wsX1_room wsX1_lying := goodIn_r _ [24, 15, 25, 30, 31, 32, 33, 34, 35, 36, 37, 38, 39, 40, 41, 42, 43, 44] (by decide +kernel) (by decide +kernel)
set_option maxRecDepth 20000 in
theorem gX1_room_X1_lying : GoodIn wsX1_room (wsV RX1 137 RX1 yX1_lying wsX1_lying) := goodIn_app (goodIn_of _ (by decide +kernel)) ggX1_room_X1_lying
set_option maxRecDepth 20000 in
theorem ggX1_room_X1_no : GoodIn wsX1_room wsX1_no := goodIn_r _ [29, 1, 30, 31, 32, 33, 34, 35, 36, 37, 38, 39, 40, 41, 42, 43, 44] (by decide +kernel) (by decide +kernel)
set_option maxRecDepth 20000 in
theorem gX1_room_X1_no : GoodIn wsX1_room (wsV RX1 78 RX1 yX1_no wsX1_no) := goodIn_app (goodIn_of _ (by decide +kernel)) ggX1_room_X1_no
theorem dX1_room_0 : decode cX1_room 0 = .ok (.aload_n 0, 1) := by decide +kernel
theorem dX1_room_1 : decode cX1_room 1 = .ok (.iconst 0, 1) := by decide +kernel
theorem dX1_room_2 : decode cX1_room 2 = .ok (.putfield 40, 3) := by decide +kernel
theorem dX1_room_5 : decode cX1_room 5 = .ok (.aload_n 0, 1) := by decide +kernel
theorem dX1_room_6 : decode cX1_room 6 = .ok (.iload_n 1, 1) := by decide +kernel
theorem dX1_room_7 : decode cX1_room 7 = .ok (.invokevirtual 81, 3) := by decide +kernel
theorem dX1_room_10 : decode cX1_room 10 = .ok (.ifCond .eq 29, 3) := by decide +kernel
theorem dX1_room_13 : decode cX1_room 13 = .ok (.aload_n 0, 1) := by decide +kernel
theorem dX1_room_14 : decode cX1_room 14 = .ok (.iload_n 1, 1) := by decide +kernel
theorem dX1_room_15 : decode cX1_room 15 = .ok (.invokevirtual 131, 3) := by decide +kernel
theorem dX1_room_18 : decode cX1_room 18 = .ok (.aload_n 0, 1) := by decide +kernel
theorem dX1_room_19 : decode cX1_room 19 = .ok (.iconst (-1), 1) := by decide +kernel
theorem dX1_room_20 : decode cX1_room 20 = .ok (.invokevirtual 131, 3) := by decide +kernel
theorem dX1_room_23 : decode cX1_room 23 = .ok (.iadd, 1) := by decide +kernel
theorem dX1_room_24 : decode cX1_room 24 = .ok (.aload_n 0, 1) := by decide +kernel
theorem dX1_room_25 : decode cX1_room 25 = .ok (.iload_n 1, 1) := by decide +kernel
theorem dX1_room_26 : decode cX1_room 26 = .ok (.invokevirtual 54, 3) := by decide +kernel
theorem dX1_room_29 : decode cX1_room 29 = .ok (.imul, 1) := by decide +kernel
theorem dX1_room_30 : decode cX1_room 30 = .ok (.aload_n 0, 1) := by decide +kernel
theorem dX1_room_31 : decode cX1_room 31 = .ok (.iload_n 1, 1) := by decide +kernel
theorem dX1_room_32 : decode cX1_room 32 = .ok (.invokevirtual 137, 3) := by decide +kernel
theorem dX1_room_35 : decode cX1_room 35 = .ok (.isub, 1) := by decide +kernel
theorem dX1_room_36 : decode cX1_room 36 = .ok (.goto 8, 3) := by decide +kernel
theorem dX1_room_39 : decode cX1_room 39 = .ok (.aload_n 0, 1) := by decide +kernel
theorem dX1_room_40 : decode cX1_room 40 = .ok (.iconst 1, 1) := by decide +kernel
theorem dX1_room_41 : decode cX1_room 41 = .ok (.invokevirtual 78, 3) := by decide +kernel
theorem dX1_room_44 : decode cX1_room 44 = .ok (.ireturn, 1) := by decide +kernel
set_option maxRecDepth 20000 in
theorem ggX1_worst_X1_trays : GoodIn wsX1_worst wsX1_trays := goodIn_r _ [8, 9, 15, 16, 17, 18, 19, 20, 21, 22, 23, 24, 25, 26, 27, 28, 29] (by decide +kernel) (by decide +kernel)
set_option maxRecDepth 20000 in
theorem gX1_worst_X1_trays : GoodIn wsX1_worst (wsV RX1 131 RX1 yX1_trays wsX1_trays) := goodIn_app (goodIn_of _ (by decide +kernel)) ggX1_worst_X1_trays
set_option maxRecDepth 20000 in
theorem ggX1_worst_X1_lying : GoodIn wsX1_worst wsX1_lying := goodIn_r _ [13, 9, 14, 15, 16, 17, 18, 19, 20, 21, 22, 23, 24, 25, 26, 27, 28, 29] (by decide +kernel) (by decide +kernel)
set_option maxRecDepth 20000 in
theorem gX1_worst_X1_lying : GoodIn wsX1_worst (wsV RX1 137 RX1 yX1_lying wsX1_lying) := goodIn_app (goodIn_of _ (by decide +kernel)) ggX1_worst_X1_lying
theorem dX1_worst_0 : decode cX1_worst 0 = .ok (.aload_n 0, 1) := by decide +kernel
theorem dX1_worst_1 : decode cX1_worst 1 = .ok (.iconst 0, 1) := by decide +kernel
theorem dX1_worst_2 : decode cX1_worst 2 = .ok (.putfield 40, 3) := by decide +kernel
theorem dX1_worst_5 : decode cX1_worst 5 = .ok (.iconst (-1), 1) := by decide +kernel
theorem dX1_worst_6 : decode cX1_worst 6 = .ok (.istore_n 1, 1) := by decide +kernel
theorem dX1_worst_7 : decode cX1_worst 7 = .ok (.iconst (-1), 1) := by decide +kernel
theorem dX1_worst_8 : decode cX1_worst 8 = .ok (.istore_n 2, 1) := by decide +kernel
theorem dX1_worst_9 : decode cX1_worst 9 = .ok (.iconst 0, 1) := by decide +kernel
theorem dX1_worst_10 : decode cX1_worst 10 = .ok (.istore_n 3, 1) := by decide +kernel
theorem dX1_worst_11 : decode cX1_worst 11 = .ok (.iload_n 3, 1) := by decide +kernel
theorem dX1_worst_12 : decode cX1_worst 12 = .ok (.aload_n 0, 1) := by decide +kernel
theorem dX1_worst_13 : decode cX1_worst 13 = .ok (.getfield 44, 3) := by decide +kernel
theorem dX1_worst_16 : decode cX1_worst 16 = .ok (.if_icmp .ge 46, 3) := by decide +kernel
theorem dX1_worst_19 : decode cX1_worst 19 = .ok (.bipush 64, 2) := by decide +kernel
theorem dX1_worst_21 : decode cX1_worst 21 = .ok (.aload_n 0, 1) := by decide +kernel
theorem dX1_worst_22 : decode cX1_worst 22 = .ok (.iload_n 3, 1) := by decide +kernel
theorem dX1_worst_23 : decode cX1_worst 23 = .ok (.invokevirtual 131, 3) := by decide +kernel
theorem dX1_worst_26 : decode cX1_worst 26 = .ok (.imul, 1) := by decide +kernel
theorem dX1_worst_27 : decode cX1_worst 27 = .ok (.aload_n 0, 1) := by decide +kernel
theorem dX1_worst_28 : decode cX1_worst 28 = .ok (.getfield 9, 3) := by decide +kernel
theorem dX1_worst_31 : decode cX1_worst 31 = .ok (.iload_n 3, 1) := by decide +kernel
theorem dX1_worst_32 : decode cX1_worst 32 = .ok (.iaload, 1) := by decide +kernel
theorem dX1_worst_33 : decode cX1_worst 33 = .ok (.aload_n 0, 1) := by decide +kernel
theorem dX1_worst_34 : decode cX1_worst 34 = .ok (.iload_n 3, 1) := by decide +kernel
theorem dX1_worst_35 : decode cX1_worst 35 = .ok (.invokevirtual 137, 3) := by decide +kernel
theorem dX1_worst_38 : decode cX1_worst 38 = .ok (.imul, 1) := by decide +kernel
theorem dX1_worst_39 : decode cX1_worst 39 = .ok (.isub, 1) := by decide +kernel
theorem dX1_worst_40 : decode cX1_worst 40 = .ok (.istore 4, 2) := by decide +kernel
theorem dX1_worst_42 : decode cX1_worst 42 = .ok (.iload 4, 2) := by decide +kernel
theorem dX1_worst_44 : decode cX1_worst 44 = .ok (.iload_n 2, 1) := by decide +kernel
theorem dX1_worst_45 : decode cX1_worst 45 = .ok (.if_icmp .gt 6, 3) := by decide +kernel
theorem dX1_worst_48 : decode cX1_worst 48 = .ok (.goto 8, 3) := by decide +kernel
theorem dX1_worst_51 : decode cX1_worst 51 = .ok (.iload 4, 2) := by decide +kernel
theorem dX1_worst_53 : decode cX1_worst 53 = .ok (.istore_n 2, 1) := by decide +kernel
theorem dX1_worst_54 : decode cX1_worst 54 = .ok (.iload_n 3, 1) := by decide +kernel
theorem dX1_worst_55 : decode cX1_worst 55 = .ok (.istore_n 1, 1) := by decide +kernel
theorem dX1_worst_56 : decode cX1_worst 56 = .ok (.iinc 3 1, 3) := by decide +kernel
theorem dX1_worst_59 : decode cX1_worst 59 = .ok (.goto (-48), 3) := by decide +kernel
theorem dX1_worst_62 : decode cX1_worst 62 = .ok (.iload_n 1, 1) := by decide +kernel
theorem dX1_worst_63 : decode cX1_worst 63 = .ok (.ireturn, 1) := by decide +kernel
set_option maxRecDepth 20000 in
theorem ggX1_mean_X1_counted : GoodIn wsX1_mean wsX1_counted := goodIn_r _ [6, 7, 8, 9, 10, 11, 12, 13, 14, 15, 16, 5, 17, 18, 19, 20, 21, 22, 23, 24, 25, 26, 27, 28, 29, 30, 31, 32, 33] (by decide +kernel) (by decide +kernel)
set_option maxRecDepth 20000 in
theorem gX1_mean_X1_counted : GoodIn wsX1_mean (wsV RX1 143 RX1 yX1_counted wsX1_counted) := goodIn_app (goodIn_of _ (by decide +kernel)) ggX1_mean_X1_counted
theorem dX1_mean_0 : decode cX1_mean 0 = .ok (.aload_n 0, 1) := by decide +kernel
theorem dX1_mean_1 : decode cX1_mean 1 = .ok (.iconst 0, 1) := by decide +kernel
theorem dX1_mean_2 : decode cX1_mean 2 = .ok (.putfield 40, 3) := by decide +kernel
theorem dX1_mean_5 : decode cX1_mean 5 = .ok (.aload_n 0, 1) := by decide +kernel
theorem dX1_mean_6 : decode cX1_mean 6 = .ok (.iconst 1, 1) := by decide +kernel
theorem dX1_mean_7 : decode cX1_mean 7 = .ok (.invokevirtual 143, 3) := by decide +kernel
theorem dX1_mean_10 : decode cX1_mean 10 = .ok (.ifCond .ne 7, 3) := by decide +kernel
theorem dX1_mean_13 : decode cX1_mean 13 = .ok (.dconst 0, 1) := by decide +kernel
theorem dX1_mean_14 : decode cX1_mean 14 = .ok (.goto 16, 3) := by decide +kernel
theorem dX1_mean_17 : decode cX1_mean 17 = .ok (.aload_n 0, 1) := by decide +kernel
theorem dX1_mean_18 : decode cX1_mean 18 = .ok (.iconst 2, 1) := by decide +kernel
theorem dX1_mean_19 : decode cX1_mean 19 = .ok (.invokevirtual 143, 3) := by decide +kernel
theorem dX1_mean_22 : decode cX1_mean 22 = .ok (.i2d, 1) := by decide +kernel
theorem dX1_mean_23 : decode cX1_mean 23 = .ok (.aload_n 0, 1) := by decide +kernel
theorem dX1_mean_24 : decode cX1_mean 24 = .ok (.iconst 1, 1) := by decide +kernel
theorem dX1_mean_25 : decode cX1_mean 25 = .ok (.invokevirtual 143, 3) := by decide +kernel
theorem dX1_mean_28 : decode cX1_mean 28 = .ok (.i2d, 1) := by decide +kernel
theorem dX1_mean_29 : decode cX1_mean 29 = .ok (.ddiv, 1) := by decide +kernel
theorem dX1_mean_30 : decode cX1_mean 30 = .ok (.dreturn, 1) := by decide +kernel
set_option maxRecDepth 20000 in
theorem ggX1_digest_X1_counted : GoodIn wsX1_digest wsX1_counted := goodIn_r _ [11, 5, 12, 13, 4, 14, 15, 16, 17, 18, 19, 10, 20, 21, 57, 58, 59, 60, 61, 62, 63, 64, 65, 66, 67, 68, 69, 70, 71] (by decide +kernel) (by decide +kernel)
set_option maxRecDepth 20000 in
theorem gX1_digest_X1_counted : GoodIn wsX1_digest (wsV RX1 143 RX1 yX1_counted wsX1_counted) := goodIn_app (goodIn_of _ (by decide +kernel)) ggX1_digest_X1_counted
set_option maxRecDepth 20000 in
theorem ggX1_digest_X1_kindTold : GoodIn wsX1_digest wsX1_kindTold := goodIn_r _ [25, 13, 21, 26, 27, 28, 29, 30, 10, 31, 5, 32, 33, 34, 35, 36, 37, 38, 39, 12, 40, 41, 42, 43, 44, 45, 46, 47, 48, 49, 50, 51, 57, 58, 59, 60, 61, 62, 63, 64, 65, 66, 67, 68, 69, 70, 71] (by decide +kernel) (by decide +kernel)
set_option maxRecDepth 20000 in
theorem gX1_digest_X1_kindTold : GoodIn wsX1_digest (wsV RX1 140 RX1 yX1_kindTold wsX1_kindTold) := goodIn_app (goodIn_of _ (by decide +kernel)) ggX1_digest_X1_kindTold
set_option maxRecDepth 20000 in
theorem ggX1_digest_X1_trayTold : GoodIn wsX1_digest wsX1_trayTold := goodIn_r _ [55, 5, 56, 12, 44, 45, 46, 10, 47, 21, 17, 18, 19, 20, 57, 58, 59, 60, 61, 62, 63, 64, 65, 66, 67, 68, 69, 70, 71] (by decide +kernel) (by decide +kernel)
set_option maxRecDepth 20000 in
theorem gX1_digest_X1_trayTold : GoodIn wsX1_digest (wsV RX1 128 RX1 yX1_trayTold wsX1_trayTold) := goodIn_app (goodIn_of _ (by decide +kernel)) ggX1_digest_X1_trayTold
set_option maxRecDepth 20000 in
theorem ggX1_digest_X1_cells : GoodIn wsX1_digest wsX1_cells := goodIn_r _ [47, 21, 57, 58, 59, 60, 61, 62, 63, 64, 65, 66, 67, 68, 69, 70, 71] (by decide +kernel) (by decide +kernel)
set_option maxRecDepth 20000 in
theorem gX1_digest_X1_cells : GoodIn wsX1_digest (wsV RX1 54 RX1 yX1_cells wsX1_cells) := goodIn_app (goodIn_of _ (by decide +kernel)) ggX1_digest_X1_cells
theorem dX1_digest_0 : decode cX1_digest 0 = .ok (.aload_n 0, 1) := by decide +kernel
theorem dX1_digest_1 : decode cX1_digest 1 = .ok (.iconst 0, 1) := by decide +kernel
theorem dX1_digest_2 : decode cX1_digest 2 = .ok (.putfield 40, 3) := by decide +kernel
theorem dX1_digest_5 : decode cX1_digest 5 = .ok (.ldc2_w 146, 3) := by decide +kernel
theorem dX1_digest_8 : decode cX1_digest 8 = .ok (.lstore_n 1, 1) := by decide +kernel
theorem dX1_digest_9 : decode cX1_digest 9 = .ok (.iconst 0, 1) := by decide +kernel
theorem dX1_digest_10 : decode cX1_digest 10 = .ok (.istore_n 3, 1) := by decide +kernel
theorem dX1_digest_11 : decode cX1_digest 11 = .ok (.iload_n 3, 1) := by decide +kernel
theorem dX1_digest_12 : decode cX1_digest 12 = .ok (.bipush 6, 2) := by decide +kernel
theorem dX1_digest_14 : decode cX1_digest 14 = .ok (.if_icmp .gt 22, 3) := by decide +kernel
theorem dX1_digest_17 : decode cX1_digest 17 = .ok (.lload_n 1, 1) := by decide +kernel
theorem dX1_digest_18 : decode cX1_digest 18 = .ok (.ldc2_w 148, 3) := by decide +kernel
theorem dX1_digest_21 : decode cX1_digest 21 = .ok (.lmul, 1) := by decide +kernel
theorem dX1_digest_22 : decode cX1_digest 22 = .ok (.aload_n 0, 1) := by decide +kernel
theorem dX1_digest_23 : decode cX1_digest 23 = .ok (.iload_n 3, 1) := by decide +kernel
theorem dX1_digest_24 : decode cX1_digest 24 = .ok (.invokevirtual 143, 3) := by decide +kernel
theorem dX1_digest_27 : decode cX1_digest 27 = .ok (.i2l, 1) := by decide +kernel
theorem dX1_digest_28 : decode cX1_digest 28 = .ok (.ladd, 1) := by decide +kernel
theorem dX1_digest_29 : decode cX1_digest 29 = .ok (.lstore_n 1, 1) := by decide +kernel
theorem dX1_digest_30 : decode cX1_digest 30 = .ok (.iinc 3 1, 3) := by decide +kernel
theorem dX1_digest_33 : decode cX1_digest 33 = .ok (.goto (-22), 3) := by decide +kernel
theorem dX1_digest_36 : decode cX1_digest 36 = .ok (.iconst 0, 1) := by decide +kernel
theorem dX1_digest_37 : decode cX1_digest 37 = .ok (.istore_n 3, 1) := by decide +kernel
theorem dX1_digest_38 : decode cX1_digest 38 = .ok (.iload_n 3, 1) := by decide +kernel
theorem dX1_digest_39 : decode cX1_digest 39 = .ok (.aload_n 0, 1) := by decide +kernel
theorem dX1_digest_40 : decode cX1_digest 40 = .ok (.getfield 44, 3) := by decide +kernel
theorem dX1_digest_43 : decode cX1_digest 43 = .ok (.if_icmp .ge 40, 3) := by decide +kernel
theorem dX1_digest_46 : decode cX1_digest 46 = .ok (.iconst 0, 1) := by decide +kernel
theorem dX1_digest_47 : decode cX1_digest 47 = .ok (.istore 4, 2) := by decide +kernel
theorem dX1_digest_49 : decode cX1_digest 49 = .ok (.iload 4, 2) := by decide +kernel
theorem dX1_digest_51 : decode cX1_digest 51 = .ok (.bipush 7, 2) := by decide +kernel
theorem dX1_digest_53 : decode cX1_digest 53 = .ok (.if_icmp .gt 24, 3) := by decide +kernel
theorem dX1_digest_56 : decode cX1_digest 56 = .ok (.lload_n 1, 1) := by decide +kernel
theorem dX1_digest_57 : decode cX1_digest 57 = .ok (.ldc2_w 148, 3) := by decide +kernel
theorem dX1_digest_60 : decode cX1_digest 60 = .ok (.lmul, 1) := by decide +kernel
theorem dX1_digest_61 : decode cX1_digest 61 = .ok (.aload_n 0, 1) := by decide +kernel
theorem dX1_digest_62 : decode cX1_digest 62 = .ok (.iload_n 3, 1) := by decide +kernel
theorem dX1_digest_63 : decode cX1_digest 63 = .ok (.iload 4, 2) := by decide +kernel
theorem dX1_digest_65 : decode cX1_digest 65 = .ok (.invokevirtual 140, 3) := by decide +kernel
theorem dX1_digest_68 : decode cX1_digest 68 = .ok (.i2l, 1) := by decide +kernel
theorem dX1_digest_69 : decode cX1_digest 69 = .ok (.ladd, 1) := by decide +kernel
theorem dX1_digest_70 : decode cX1_digest 70 = .ok (.lstore_n 1, 1) := by decide +kernel
theorem dX1_digest_71 : decode cX1_digest 71 = .ok (.iinc 4 1, 3) := by decide +kernel
theorem dX1_digest_74 : decode cX1_digest 74 = .ok (.goto (-25), 3) := by decide +kernel
theorem dX1_digest_77 : decode cX1_digest 77 = .ok (.iinc 3 1, 3) := by decide +kernel
theorem dX1_digest_80 : decode cX1_digest 80 = .ok (.goto (-42), 3) := by decide +kernel
theorem dX1_digest_83 : decode cX1_digest 83 = .ok (.iconst 0, 1) := by decide +kernel
theorem dX1_digest_84 : decode cX1_digest 84 = .ok (.istore_n 3, 1) := by decide +kernel
theorem dX1_digest_85 : decode cX1_digest 85 = .ok (.iload_n 3, 1) := by decide +kernel
theorem dX1_digest_86 : decode cX1_digest 86 = .ok (.bipush 20, 2) := by decide +kernel
theorem dX1_digest_88 : decode cX1_digest 88 = .ok (.if_icmp .ge 93, 3) := by decide +kernel
theorem dX1_digest_91 : decode cX1_digest 91 = .ok (.iconst 0, 1) := by decide +kernel
theorem dX1_digest_92 : decode cX1_digest 92 = .ok (.istore 4, 2) := by decide +kernel
theorem dX1_digest_94 : decode cX1_digest 94 = .ok (.iload 4, 2) := by decide +kernel
theorem dX1_digest_96 : decode cX1_digest 96 = .ok (.iconst 4, 1) := by decide +kernel
theorem dX1_digest_97 : decode cX1_digest 97 = .ok (.if_icmp .gt 24, 3) := by decide +kernel
theorem dX1_digest_100 : decode cX1_digest 100 = .ok (.lload_n 1, 1) := by decide +kernel
theorem dX1_digest_101 : decode cX1_digest 101 = .ok (.ldc2_w 148, 3) := by decide +kernel
theorem dX1_digest_104 : decode cX1_digest 104 = .ok (.lmul, 1) := by decide +kernel
theorem dX1_digest_105 : decode cX1_digest 105 = .ok (.aload_n 0, 1) := by decide +kernel
theorem dX1_digest_106 : decode cX1_digest 106 = .ok (.iload_n 3, 1) := by decide +kernel
theorem dX1_digest_107 : decode cX1_digest 107 = .ok (.iload 4, 2) := by decide +kernel
theorem dX1_digest_109 : decode cX1_digest 109 = .ok (.invokevirtual 128, 3) := by decide +kernel
theorem dX1_digest_112 : decode cX1_digest 112 = .ok (.i2l, 1) := by decide +kernel
theorem dX1_digest_113 : decode cX1_digest 113 = .ok (.ladd, 1) := by decide +kernel
theorem dX1_digest_114 : decode cX1_digest 114 = .ok (.lstore_n 1, 1) := by decide +kernel
theorem dX1_digest_115 : decode cX1_digest 115 = .ok (.iinc 4 1, 3) := by decide +kernel
theorem dX1_digest_118 : decode cX1_digest 118 = .ok (.goto (-24), 3) := by decide +kernel
theorem dX1_digest_121 : decode cX1_digest 121 = .ok (.iconst 0, 1) := by decide +kernel
theorem dX1_digest_122 : decode cX1_digest 122 = .ok (.istore 4, 2) := by decide +kernel
theorem dX1_digest_124 : decode cX1_digest 124 = .ok (.aload_n 0, 1) := by decide +kernel
theorem dX1_digest_125 : decode cX1_digest 125 = .ok (.getfield 19, 3) := by decide +kernel
theorem dX1_digest_128 : decode cX1_digest 128 = .ok (.iload_n 3, 1) := by decide +kernel
theorem dX1_digest_129 : decode cX1_digest 129 = .ok (.iaload, 1) := by decide +kernel
theorem dX1_digest_130 : decode cX1_digest 130 = .ok (.iconst (-1), 1) := by decide +kernel
theorem dX1_digest_131 : decode cX1_digest 131 = .ok (.if_icmp .eq 44, 3) := by decide +kernel
theorem dX1_digest_134 : decode cX1_digest 134 = .ok (.iload 4, 2) := by decide +kernel
theorem dX1_digest_136 : decode cX1_digest 136 = .ok (.aload_n 0, 1) := by decide +kernel
theorem dX1_digest_137 : decode cX1_digest 137 = .ok (.aload_n 0, 1) := by decide +kernel
theorem dX1_digest_138 : decode cX1_digest 138 = .ok (.getfield 19, 3) := by decide +kernel
theorem dX1_digest_141 : decode cX1_digest 141 = .ok (.iload_n 3, 1) := by decide +kernel
theorem dX1_digest_142 : decode cX1_digest 142 = .ok (.iaload, 1) := by decide +kernel
theorem dX1_digest_143 : decode cX1_digest 143 = .ok (.invokevirtual 54, 3) := by decide +kernel
theorem dX1_digest_146 : decode cX1_digest 146 = .ok (.if_icmp .ge 29, 3) := by decide +kernel
theorem dX1_digest_149 : decode cX1_digest 149 = .ok (.lload_n 1, 1) := by decide +kernel
theorem dX1_digest_150 : decode cX1_digest 150 = .ok (.ldc2_w 148, 3) := by decide +kernel
theorem dX1_digest_153 : decode cX1_digest 153 = .ok (.lmul, 1) := by decide +kernel
theorem dX1_digest_154 : decode cX1_digest 154 = .ok (.aload_n 0, 1) := by decide +kernel
theorem dX1_digest_155 : decode cX1_digest 155 = .ok (.getfield 28, 3) := by decide +kernel
theorem dX1_digest_158 : decode cX1_digest 158 = .ok (.bipush 64, 2) := by decide +kernel
theorem dX1_digest_160 : decode cX1_digest 160 = .ok (.iload_n 3, 1) := by decide +kernel
theorem dX1_digest_161 : decode cX1_digest 161 = .ok (.imul, 1) := by decide +kernel
theorem dX1_digest_162 : decode cX1_digest 162 = .ok (.iload 4, 2) := by decide +kernel
theorem dX1_digest_164 : decode cX1_digest 164 = .ok (.iadd, 1) := by decide +kernel
theorem dX1_digest_165 : decode cX1_digest 165 = .ok (.iaload, 1) := by decide +kernel
theorem dX1_digest_166 : decode cX1_digest 166 = .ok (.i2l, 1) := by decide +kernel
theorem dX1_digest_167 : decode cX1_digest 167 = .ok (.ladd, 1) := by decide +kernel
theorem dX1_digest_168 : decode cX1_digest 168 = .ok (.lstore_n 1, 1) := by decide +kernel
theorem dX1_digest_169 : decode cX1_digest 169 = .ok (.iinc 4 1, 3) := by decide +kernel
theorem dX1_digest_172 : decode cX1_digest 172 = .ok (.goto (-48), 3) := by decide +kernel
theorem dX1_digest_175 : decode cX1_digest 175 = .ok (.iinc 3 1, 3) := by decide +kernel
theorem dX1_digest_178 : decode cX1_digest 178 = .ok (.goto (-93), 3) := by decide +kernel
theorem dX1_digest_181 : decode cX1_digest 181 = .ok (.lload_n 1, 1) := by decide +kernel
theorem dX1_digest_182 : decode cX1_digest 182 = .ok (.lreturn, 1) := by decide +kernel
