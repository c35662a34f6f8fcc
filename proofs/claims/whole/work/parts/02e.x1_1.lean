theorem dX1_init_0 : decode cX1_init 0 = .ok (.aload_n 0, 1) := by decide +kernel
theorem dX1_init_1 : decode cX1_init 1 = .ok (.invokespecial 1, 3) := by decide +kernel
theorem dX1_init_4 : decode cX1_init 4 = .ok (.aload_n 0, 1) := by decide +kernel
theorem dX1_init_5 : decode cX1_init 5 = .ok (.bipush 6, 2) := by decide +kernel
theorem dX1_init_7 : decode cX1_init 7 = .ok (.newarray .int, 2) := by decide +kernel
theorem dX1_init_9 : decode cX1_init 9 = .ok (.putfield 9, 3) := by decide +kernel
theorem dX1_init_12 : decode cX1_init 12 = .ok (.aload_n 0, 1) := by decide +kernel
theorem dX1_init_13 : decode cX1_init 13 = .ok (.bipush 6, 2) := by decide +kernel
theorem dX1_init_15 : decode cX1_init 15 = .ok (.newarray .int, 2) := by decide +kernel
theorem dX1_init_17 : decode cX1_init 17 = .ok (.putfield 13, 3) := by decide +kernel
theorem dX1_init_20 : decode cX1_init 20 = .ok (.aload_n 0, 1) := by decide +kernel
theorem dX1_init_21 : decode cX1_init 21 = .ok (.bipush 6, 2) := by decide +kernel
theorem dX1_init_23 : decode cX1_init 23 = .ok (.newarray .int, 2) := by decide +kernel
theorem dX1_init_25 : decode cX1_init 25 = .ok (.putfield 16, 3) := by decide +kernel
theorem dX1_init_28 : decode cX1_init 28 = .ok (.aload_n 0, 1) := by decide +kernel
theorem dX1_init_29 : decode cX1_init 29 = .ok (.bipush 20, 2) := by decide +kernel
theorem dX1_init_31 : decode cX1_init 31 = .ok (.newarray .int, 2) := by decide +kernel
theorem dX1_init_33 : decode cX1_init 33 = .ok (.putfield 19, 3) := by decide +kernel
theorem dX1_init_36 : decode cX1_init 36 = .ok (.aload_n 0, 1) := by decide +kernel
theorem dX1_init_37 : decode cX1_init 37 = .ok (.bipush 20, 2) := by decide +kernel
theorem dX1_init_39 : decode cX1_init 39 = .ok (.newarray .int, 2) := by decide +kernel
theorem dX1_init_41 : decode cX1_init 41 = .ok (.putfield 22, 3) := by decide +kernel
theorem dX1_init_44 : decode cX1_init 44 = .ok (.aload_n 0, 1) := by decide +kernel
theorem dX1_init_45 : decode cX1_init 45 = .ok (.bipush 20, 2) := by decide +kernel
theorem dX1_init_47 : decode cX1_init 47 = .ok (.newarray .int, 2) := by decide +kernel
theorem dX1_init_49 : decode cX1_init 49 = .ok (.putfield 25, 3) := by decide +kernel
theorem dX1_init_52 : decode cX1_init 52 = .ok (.aload_n 0, 1) := by decide +kernel
theorem dX1_init_53 : decode cX1_init 53 = .ok (.sipush 1280, 3) := by decide +kernel
theorem dX1_init_56 : decode cX1_init 56 = .ok (.newarray .int, 2) := by decide +kernel
theorem dX1_init_58 : decode cX1_init 58 = .ok (.putfield 28, 3) := by decide +kernel
theorem dX1_init_61 : decode cX1_init 61 = .ok (.aload_n 0, 1) := by decide +kernel
theorem dX1_init_62 : decode cX1_init 62 = .ok (.sipush 150, 3) := by decide +kernel
theorem dX1_init_65 : decode cX1_init 65 = .ok (.newarray .int, 2) := by decide +kernel
theorem dX1_init_67 : decode cX1_init 67 = .ok (.putfield 31, 3) := by decide +kernel
theorem dX1_init_70 : decode cX1_init 70 = .ok (.aload_n 0, 1) := by decide +kernel
theorem dX1_init_71 : decode cX1_init 71 = .ok (.sipush 150, 3) := by decide +kernel
theorem dX1_init_74 : decode cX1_init 74 = .ok (.newarray .int, 2) := by decide +kernel
theorem dX1_init_76 : decode cX1_init 76 = .ok (.putfield 34, 3) := by decide +kernel
theorem dX1_init_79 : decode cX1_init 79 = .ok (.aload_n 0, 1) := by decide +kernel
theorem dX1_init_80 : decode cX1_init 80 = .ok (.sipush 150, 3) := by decide +kernel
theorem dX1_init_83 : decode cX1_init 83 = .ok (.newarray .int, 2) := by decide +kernel
theorem dX1_init_85 : decode cX1_init 85 = .ok (.putfield 37, 3) := by decide +kernel
theorem dX1_init_88 : decode cX1_init 88 = .ok (.iconst 0, 1) := by decide +kernel
theorem dX1_init_89 : decode cX1_init 89 = .ok (.istore_n 1, 1) := by decide +kernel
theorem dX1_init_90 : decode cX1_init 90 = .ok (.iload_n 1, 1) := by decide +kernel
theorem dX1_init_91 : decode cX1_init 91 = .ok (.bipush 20, 2) := by decide +kernel
theorem dX1_init_93 : decode cX1_init 93 = .ok (.if_icmp .ge 16, 3) := by decide +kernel
theorem dX1_init_96 : decode cX1_init 96 = .ok (.aload_n 0, 1) := by decide +kernel
theorem dX1_init_97 : decode cX1_init 97 = .ok (.getfield 19, 3) := by decide +kernel
theorem dX1_init_100 : decode cX1_init 100 = .ok (.iload_n 1, 1) := by decide +kernel
theorem dX1_init_101 : decode cX1_init 101 = .ok (.iconst (-1), 1) := by decide +kernel
theorem dX1_init_102 : decode cX1_init 102 = .ok (.iastore, 1) := by decide +kernel
theorem dX1_init_103 : decode cX1_init 103 = .ok (.iinc 1 1, 3) := by decide +kernel
theorem dX1_init_106 : decode cX1_init 106 = .ok (.goto (-16), 3) := by decide +kernel
theorem dX1_init_109 : decode cX1_init 109 = .ok (.return_, 1) := by decide +kernel
theorem dX1_thrown_0 : decode cX1_thrown 0 = .ok (.aload_n 0, 1) := by decide +kernel
theorem dX1_thrown_1 : decode cX1_thrown 1 = .ok (.getfield 40, 3) := by decide +kernel
theorem dX1_thrown_4 : decode cX1_thrown 4 = .ok (.ireturn, 1) := by decide +kernel
theorem dX1_no_0 : decode cX1_no 0 = .ok (.aload_n 0, 1) := by decide +kernel
theorem dX1_no_1 : decode cX1_no 1 = .ok (.iload_n 1, 1) := by decide +kernel
theorem dX1_no_2 : decode cX1_no 2 = .ok (.putfield 40, 3) := by decide +kernel
theorem dX1_no_5 : decode cX1_no 5 = .ok (.iconst 0, 1) := by decide +kernel
theorem dX1_no_6 : decode cX1_no 6 = .ok (.ireturn, 1) := by decide +kernel
theorem dX1_isIn_0 : decode cX1_isIn 0 = .ok (.iload_n 0, 1) := by decide +kernel
theorem dX1_isIn_1 : decode cX1_isIn 1 = .ok (.iload_n 1, 1) := by decide +kernel
theorem dX1_isIn_2 : decode cX1_isIn 2 = .ok (.if_icmp .lt 12, 3) := by decide +kernel
theorem dX1_isIn_5 : decode cX1_isIn 5 = .ok (.iload_n 0, 1) := by decide +kernel
theorem dX1_isIn_6 : decode cX1_isIn 6 = .ok (.iload_n 2, 1) := by decide +kernel
theorem dX1_isIn_7 : decode cX1_isIn 7 = .ok (.if_icmp .gt 7, 3) := by decide +kernel
theorem dX1_isIn_10 : decode cX1_isIn 10 = .ok (.iconst 1, 1) := by decide +kernel
theorem dX1_isIn_11 : decode cX1_isIn 11 = .ok (.goto 4, 3) := by decide +kernel
theorem dX1_isIn_14 : decode cX1_isIn 14 = .ok (.iconst 0, 1) := by decide +kernel
theorem dX1_isIn_15 : decode cX1_isIn 15 = .ok (.ireturn, 1) := by decide +kernel
set_option maxRecDepth 20000 in
theorem ggX1_isKind_X1_isIn : GoodIn wsX1_isKind wsX1_isIn := goodIn_r _ [5] (by decide +kernel) (by decide +kernel)
set_option maxRecDepth 20000 in
theorem gX1_isKind_X1_isIn : GoodIn wsX1_isKind (va_wsS RX1 47 yX1_isIn wsX1_isIn) := goodIn_app (goodIn_of _ (by decide +kernel)) ggX1_isKind_X1_isIn
theorem dX1_isKind_0 : decode cX1_isKind 0 = .ok (.iload_n 1, 1) := by decide +kernel
theorem dX1_isKind_1 : decode cX1_isKind 1 = .ok (.iconst 0, 1) := by decide +kernel
theorem dX1_isKind_2 : decode cX1_isKind 2 = .ok (.aload_n 0, 1) := by decide +kernel
theorem dX1_isKind_3 : decode cX1_isKind 3 = .ok (.getfield 44, 3) := by decide +kernel
theorem dX1_isKind_6 : decode cX1_isKind 6 = .ok (.iconst 1, 1) := by decide +kernel
theorem dX1_isKind_7 : decode cX1_isKind 7 = .ok (.isub, 1) := by decide +kernel
theorem dX1_isKind_8 : decode cX1_isKind 8 = .ok (.invokestatic 47, 3) := by decide +kernel
theorem dX1_isKind_11 : decode cX1_isKind 11 = .ok (.ireturn, 1) := by decide +kernel
set_option maxRecDepth 20000 in
theorem ggX1_isThing_X1_isIn : GoodIn wsX1_isThing wsX1_isIn := goodIn_r _ [5] (by decide +kernel) (by decide +kernel)
set_option maxRecDepth 20000 in
theorem gX1_isThing_X1_isIn : GoodIn wsX1_isThing (va_wsS RX1 47 yX1_isIn wsX1_isIn) := goodIn_app (goodIn_of _ (by decide +kernel)) ggX1_isThing_X1_isIn
theorem dX1_isThing_0 : decode cX1_isThing 0 = .ok (.iload_n 1, 1) := by decide +kernel
theorem dX1_isThing_1 : decode cX1_isThing 1 = .ok (.iconst 0, 1) := by decide +kernel
theorem dX1_isThing_2 : decode cX1_isThing 2 = .ok (.aload_n 0, 1) := by decide +kernel
theorem dX1_isThing_3 : decode cX1_isThing 3 = .ok (.getfield 51, 3) := by decide +kernel
theorem dX1_isThing_6 : decode cX1_isThing 6 = .ok (.iconst 1, 1) := by decide +kernel
theorem dX1_isThing_7 : decode cX1_isThing 7 = .ok (.isub, 1) := by decide +kernel
theorem dX1_isThing_8 : decode cX1_isThing 8 = .ok (.invokestatic 47, 3) := by decide +kernel
theorem dX1_isThing_11 : decode cX1_isThing 11 = .ok (.ireturn, 1) := by decide +kernel
theorem dX1_cells_0 : decode cX1_cells 0 = .ok (.bipush 64, 2) := by decide +kernel
theorem dX1_cells_2 : decode cX1_cells 2 = .ok (.aload_n 0, 1) := by decide +kernel
theorem dX1_cells_3 : decode cX1_cells 3 = .ok (.getfield 9, 3) := by decide +kernel
theorem dX1_cells_6 : decode cX1_cells 6 = .ok (.iload_n 1, 1) := by decide +kernel
theorem dX1_cells_7 : decode cX1_cells 7 = .ok (.iaload, 1) := by decide +kernel
theorem dX1_cells_8 : decode cX1_cells 8 = .ok (.idiv, 1) := by decide +kernel
theorem dX1_cells_9 : decode cX1_cells 9 = .ok (.ireturn, 1) := by decide +kernel
theorem dX1_isEmpty_0 : decode cX1_isEmpty 0 = .ok (.aload_n 0, 1) := by decide +kernel
theorem dX1_isEmpty_1 : decode cX1_isEmpty 1 = .ok (.getfield 19, 3) := by decide +kernel
theorem dX1_isEmpty_4 : decode cX1_isEmpty 4 = .ok (.iload_n 1, 1) := by decide +kernel
theorem dX1_isEmpty_5 : decode cX1_isEmpty 5 = .ok (.iaload, 1) := by decide +kernel
theorem dX1_isEmpty_6 : decode cX1_isEmpty 6 = .ok (.iload_n 2, 1) := by decide +kernel
theorem dX1_isEmpty_7 : decode cX1_isEmpty 7 = .ok (.if_icmp .ne 16, 3) := by decide +kernel
theorem dX1_isEmpty_10 : decode cX1_isEmpty 10 = .ok (.aload_n 0, 1) := by decide +kernel
theorem dX1_isEmpty_11 : decode cX1_isEmpty 11 = .ok (.getfield 25, 3) := by decide +kernel
theorem dX1_isEmpty_14 : decode cX1_isEmpty 14 = .ok (.iload_n 1, 1) := by decide +kernel
theorem dX1_isEmpty_15 : decode cX1_isEmpty 15 = .ok (.iaload, 1) := by decide +kernel
theorem dX1_isEmpty_16 : decode cX1_isEmpty 16 = .ok (.ifCond .ne 7, 3) := by decide +kernel
theorem dX1_isEmpty_19 : decode cX1_isEmpty 19 = .ok (.iconst 1, 1) := by decide +kernel
theorem dX1_isEmpty_20 : decode cX1_isEmpty 20 = .ok (.goto 4, 3) := by decide +kernel
theorem dX1_isEmpty_23 : decode cX1_isEmpty 23 = .ok (.iconst 0, 1) := by decide +kernel
theorem dX1_isEmpty_24 : decode cX1_isEmpty 24 = .ok (.ireturn, 1) := by decide +kernel
set_option maxRecDepth 20000 in
theorem ggX1_isPartly_X1_cells : GoodIn wsX1_isPartly wsX1_cells := goodIn_r _ [7, 8, 9, 10, 11, 12, 13, 14, 15, 16, 17, 18, 19, 20, 21, 22, 23] (by decide +kernel) (by decide +kernel)
set_option maxRecDepth 20000 in
theorem gX1_isPartly_X1_cells : GoodIn wsX1_isPartly (wsV RX1 54 RX1 yX1_cells wsX1_cells) := goodIn_app (goodIn_of _ (by decide +kernel)) ggX1_isPartly_X1_cells
theorem dX1_isPartly_0 : decode cX1_isPartly 0 = .ok (.aload_n 0, 1) := by decide +kernel
theorem dX1_isPartly_1 : decode cX1_isPartly 1 = .ok (.getfield 19, 3) := by decide +kernel
theorem dX1_isPartly_4 : decode cX1_isPartly 4 = .ok (.iload_n 1, 1) := by decide +kernel
theorem dX1_isPartly_5 : decode cX1_isPartly 5 = .ok (.iaload, 1) := by decide +kernel
theorem dX1_isPartly_6 : decode cX1_isPartly 6 = .ok (.iload_n 2, 1) := by decide +kernel
theorem dX1_isPartly_7 : decode cX1_isPartly 7 = .ok (.if_icmp .ne 30, 3) := by decide +kernel
theorem dX1_isPartly_10 : decode cX1_isPartly 10 = .ok (.aload_n 0, 1) := by decide +kernel
theorem dX1_isPartly_11 : decode cX1_isPartly 11 = .ok (.getfield 25, 3) := by decide +kernel
theorem dX1_isPartly_14 : decode cX1_isPartly 14 = .ok (.iload_n 1, 1) := by decide +kernel
theorem dX1_isPartly_15 : decode cX1_isPartly 15 = .ok (.iaload, 1) := by decide +kernel
theorem dX1_isPartly_16 : decode cX1_isPartly 16 = .ok (.ifCond .le 21, 3) := by decide +kernel
theorem dX1_isPartly_19 : decode cX1_isPartly 19 = .ok (.aload_n 0, 1) := by decide +kernel
theorem dX1_isPartly_20 : decode cX1_isPartly 20 = .ok (.getfield 25, 3) := by decide +kernel
theorem dX1_isPartly_23 : decode cX1_isPartly 23 = .ok (.iload_n 1, 1) := by decide +kernel
theorem dX1_isPartly_24 : decode cX1_isPartly 24 = .ok (.iaload, 1) := by decide +kernel
theorem dX1_isPartly_25 : decode cX1_isPartly 25 = .ok (.aload_n 0, 1) := by decide +kernel
theorem dX1_isPartly_26 : decode cX1_isPartly 26 = .ok (.iload_n 2, 1) := by decide +kernel
theorem dX1_isPartly_27 : decode cX1_isPartly 27 = .ok (.invokevirtual 54, 3) := by decide +kernel
theorem dX1_isPartly_30 : decode cX1_isPartly 30 = .ok (.if_icmp .ge 7, 3) := by decide +kernel
theorem dX1_isPartly_33 : decode cX1_isPartly 33 = .ok (.iconst 1, 1) := by decide +kernel
theorem dX1_isPartly_34 : decode cX1_isPartly 34 = .ok (.goto 4, 3) := by decide +kernel
theorem dX1_isPartly_37 : decode cX1_isPartly 37 = .ok (.iconst 0, 1) := by decide +kernel
theorem dX1_isPartly_38 : decode cX1_isPartly 38 = .ok (.ireturn, 1) := by decide +kernel
set_option maxRecDepth 20000 in
theorem ggX1_fullest_X1_isPartly : GoodIn wsX1_fullest wsX1_isPartly := goodIn_r _ [6, 7, 1, 8, 9, 10, 5, 11, 12, 13, 14, 15, 16, 17, 18, 19, 20, 21, 22, 23, 24, 25, 26, 27] (by decide +kernel) (by decide +kernel)
set_option maxRecDepth 20000 in
theorem gX1_fullest_X1_isPartly : GoodIn wsX1_fullest (wsV RX1 58 RX1 yX1_isPartly wsX1_isPartly) := goodIn_app (goodIn_of _ (by decide +kernel)) ggX1_fullest_X1_isPartly
theorem dX1_fullest_0 : decode cX1_fullest 0 = .ok (.iconst (-1), 1) := by decide +kernel
theorem dX1_fullest_1 : decode cX1_fullest 1 = .ok (.istore_n 2, 1) := by decide +kernel
theorem dX1_fullest_2 : decode cX1_fullest 2 = .ok (.iconst 0, 1) := by decide +kernel
theorem dX1_fullest_3 : decode cX1_fullest 3 = .ok (.istore_n 3, 1) := by decide +kernel
theorem dX1_fullest_4 : decode cX1_fullest 4 = .ok (.iload_n 3, 1) := by decide +kernel
theorem dX1_fullest_5 : decode cX1_fullest 5 = .ok (.bipush 20, 2) := by decide +kernel
theorem dX1_fullest_7 : decode cX1_fullest 7 = .ok (.if_icmp .ge 40, 3) := by decide +kernel
theorem dX1_fullest_10 : decode cX1_fullest 10 = .ok (.aload_n 0, 1) := by decide +kernel
theorem dX1_fullest_11 : decode cX1_fullest 11 = .ok (.iload_n 3, 1) := by decide +kernel
theorem dX1_fullest_12 : decode cX1_fullest 12 = .ok (.iload_n 1, 1) := by decide +kernel
theorem dX1_fullest_13 : decode cX1_fullest 13 = .ok (.invokevirtual 58, 3) := by decide +kernel
theorem dX1_fullest_16 : decode cX1_fullest 16 = .ok (.ifCond .eq 25, 3) := by decide +kernel
theorem dX1_fullest_19 : decode cX1_fullest 19 = .ok (.iload_n 2, 1) := by decide +kernel
theorem dX1_fullest_20 : decode cX1_fullest 20 = .ok (.iconst (-1), 1) := by decide +kernel
theorem dX1_fullest_21 : decode cX1_fullest 21 = .ok (.if_icmp .eq 18, 3) := by decide +kernel
theorem dX1_fullest_24 : decode cX1_fullest 24 = .ok (.aload_n 0, 1) := by decide +kernel
theorem dX1_fullest_25 : decode cX1_fullest 25 = .ok (.getfield 25, 3) := by decide +kernel
theorem dX1_fullest_28 : decode cX1_fullest 28 = .ok (.iload_n 3, 1) := by decide +kernel
theorem dX1_fullest_29 : decode cX1_fullest 29 = .ok (.iaload, 1) := by decide +kernel
theorem dX1_fullest_30 : decode cX1_fullest 30 = .ok (.aload_n 0, 1) := by decide +kernel
theorem dX1_fullest_31 : decode cX1_fullest 31 = .ok (.getfield 25, 3) := by decide +kernel
theorem dX1_fullest_34 : decode cX1_fullest 34 = .ok (.iload_n 2, 1) := by decide +kernel
theorem dX1_fullest_35 : decode cX1_fullest 35 = .ok (.iaload, 1) := by decide +kernel
theorem dX1_fullest_36 : decode cX1_fullest 36 = .ok (.if_icmp .le 5, 3) := by decide +kernel
theorem dX1_fullest_39 : decode cX1_fullest 39 = .ok (.iload_n 3, 1) := by decide +kernel
theorem dX1_fullest_40 : decode cX1_fullest 40 = .ok (.istore_n 2, 1) := by decide +kernel
theorem dX1_fullest_41 : decode cX1_fullest 41 = .ok (.iinc 3 1, 3) := by decide +kernel
theorem dX1_fullest_44 : decode cX1_fullest 44 = .ok (.goto (-40), 3) := by decide +kernel
theorem dX1_fullest_47 : decode cX1_fullest 47 = .ok (.iload_n 2, 1) := by decide +kernel
theorem dX1_fullest_48 : decode cX1_fullest 48 = .ok (.ireturn, 1) := by decide +kernel
set_option maxRecDepth 20000 in
theorem ggX1_leanest_X1_isPartly : GoodIn wsX1_leanest wsX1_isPartly := goodIn_r _ [6, 7, 1, 8, 9, 10, 5, 11, 12, 13, 14, 15, 16, 17, 18, 19, 20, 21, 22, 23, 24, 25, 26, 27] (by decide +kernel) (by decide +kernel)
set_option maxRecDepth 20000 in
theorem gX1_leanest_X1_isPartly : GoodIn wsX1_leanest (wsV RX1 58 RX1 yX1_isPartly wsX1_isPartly) := goodIn_app (goodIn_of _ (by decide +kernel)) ggX1_leanest_X1_isPartly
theorem dX1_leanest_0 : decode cX1_leanest 0 = .ok (.iconst (-1), 1) := by decide +kernel
theorem dX1_leanest_1 : decode cX1_leanest 1 = .ok (.istore_n 2, 1) := by decide +kernel
theorem dX1_leanest_2 : decode cX1_leanest 2 = .ok (.iconst 0, 1) := by decide +kernel
theorem dX1_leanest_3 : decode cX1_leanest 3 = .ok (.istore_n 3, 1) := by decide +kernel
theorem dX1_leanest_4 : decode cX1_leanest 4 = .ok (.iload_n 3, 1) := by decide +kernel
theorem dX1_leanest_5 : decode cX1_leanest 5 = .ok (.bipush 20, 2) := by decide +kernel
theorem dX1_leanest_7 : decode cX1_leanest 7 = .ok (.if_icmp .ge 40, 3) := by decide +kernel
theorem dX1_leanest_10 : decode cX1_leanest 10 = .ok (.aload_n 0, 1) := by decide +kernel
theorem dX1_leanest_11 : decode cX1_leanest 11 = .ok (.iload_n 3, 1) := by decide +kernel
theorem dX1_leanest_12 : decode cX1_leanest 12 = .ok (.iload_n 1, 1) := by decide +kernel
theorem dX1_leanest_13 : decode cX1_leanest 13 = .ok (.invokevirtual 58, 3) := by decide +kernel
theorem dX1_leanest_16 : decode cX1_leanest 16 = .ok (.ifCond .eq 25, 3) := by decide +kernel
theorem dX1_leanest_19 : decode cX1_leanest 19 = .ok (.iload_n 2, 1) := by decide +kernel
theorem dX1_leanest_20 : decode cX1_leanest 20 = .ok (.iconst (-1), 1) := by decide +kernel
theorem dX1_leanest_21 : decode cX1_leanest 21 = .ok (.if_icmp .eq 18, 3) := by decide +kernel
theorem dX1_leanest_24 : decode cX1_leanest 24 = .ok (.aload_n 0, 1) := by decide +kernel
theorem dX1_leanest_25 : decode cX1_leanest 25 = .ok (.getfield 25, 3) := by decide +kernel
theorem dX1_leanest_28 : decode cX1_leanest 28 = .ok (.iload_n 3, 1) := by decide +kernel
theorem dX1_leanest_29 : decode cX1_leanest 29 = .ok (.iaload, 1) := by decide +kernel
theorem dX1_leanest_30 : decode cX1_leanest 30 = .ok (.aload_n 0, 1) := by decide +kernel
theorem dX1_leanest_31 : decode cX1_leanest 31 = .ok (.getfield 25, 3) := by decide +kernel
theorem dX1_leanest_34 : decode cX1_leanest 34 = .ok (.iload_n 2, 1) := by decide +kernel
theorem dX1_leanest_35 : decode cX1_leanest 35 = .ok (.iaload, 1) := by decide +kernel
theorem dX1_leanest_36 : decode cX1_leanest 36 = .ok (.if_icmp .gt 5, 3) := by decide +kernel
theorem dX1_leanest_39 : decode cX1_leanest 39 = .ok (.iload_n 3, 1) := by decide +kernel
theorem dX1_leanest_40 : decode cX1_leanest 40 = .ok (.istore_n 2, 1) := by decide +kernel
theorem dX1_leanest_41 : decode cX1_leanest 41 = .ok (.iinc 3 1, 3) := by decide +kernel
theorem dX1_leanest_44 : decode cX1_leanest 44 = .ok (.goto (-40), 3) := by decide +kernel
theorem dX1_leanest_47 : decode cX1_leanest 47 = .ok (.iload_n 2, 1) := by decide +kernel
theorem dX1_leanest_48 : decode cX1_leanest 48 = .ok (.ireturn, 1) := by decide +kernel
set_option maxRecDepth 20000 in
theorem ggX1_firstEmpty_X1_isEmpty : GoodIn wsX1_firstEmpty wsX1_isEmpty := goodIn_r _ [5, 6, 7, 8, 9, 10, 11, 12, 13, 14, 15, 16, 17, 18, 19, 20, 21, 22] (by decide +kernel) (by decide +kernel)
set_option maxRecDepth 20000 in
theorem gX1_firstEmpty_X1_isEmpty : GoodIn wsX1_firstEmpty (wsV RX1 62 RX1 yX1_isEmpty wsX1_isEmpty) := goodIn_app (goodIn_of _ (by decide +kernel)) ggX1_firstEmpty_X1_isEmpty
theorem dX1_firstEmpty_0 : decode cX1_firstEmpty 0 = .ok (.iconst 0, 1) := by decide +kernel
theorem dX1_firstEmpty_1 : decode cX1_firstEmpty 1 = .ok (.istore_n 2, 1) := by decide +kernel
theorem dX1_firstEmpty_2 : decode cX1_firstEmpty 2 = .ok (.iload_n 2, 1) := by decide +kernel
theorem dX1_firstEmpty_3 : decode cX1_firstEmpty 3 = .ok (.bipush 20, 2) := by decide +kernel
theorem dX1_firstEmpty_5 : decode cX1_firstEmpty 5 = .ok (.if_icmp .ge 20, 3) := by decide +kernel
theorem dX1_firstEmpty_8 : decode cX1_firstEmpty 8 = .ok (.aload_n 0, 1) := by decide +kernel
theorem dX1_firstEmpty_9 : decode cX1_firstEmpty 9 = .ok (.iload_n 2, 1) := by decide +kernel
theorem dX1_firstEmpty_10 : decode cX1_firstEmpty 10 = .ok (.iload_n 1, 1) := by decide +kernel
theorem dX1_firstEmpty_11 : decode cX1_firstEmpty 11 = .ok (.invokevirtual 62, 3) := by decide +kernel
theorem dX1_firstEmpty_14 : decode cX1_firstEmpty 14 = .ok (.ifCond .eq 5, 3) := by decide +kernel
theorem dX1_firstEmpty_17 : decode cX1_firstEmpty 17 = .ok (.iload_n 2, 1) := by decide +kernel
theorem dX1_firstEmpty_18 : decode cX1_firstEmpty 18 = .ok (.ireturn, 1) := by decide +kernel
theorem dX1_firstEmpty_19 : decode cX1_firstEmpty 19 = .ok (.iinc 2 1, 3) := by decide +kernel
theorem dX1_firstEmpty_22 : decode cX1_firstEmpty 22 = .ok (.goto (-20), 3) := by decide +kernel
theorem dX1_firstEmpty_25 : decode cX1_firstEmpty 25 = .ok (.iconst (-1), 1) := by decide +kernel
theorem dX1_firstEmpty_26 : decode cX1_firstEmpty 26 = .ok (.ireturn, 1) := by decide +kernel
theorem dX1_firstFree_0 : decode cX1_firstFree 0 = .ok (.iconst 0, 1) := by decide +kernel
theorem dX1_firstFree_1 : decode cX1_firstFree 1 = .ok (.istore_n 1, 1) := by decide +kernel
theorem dX1_firstFree_2 : decode cX1_firstFree 2 = .ok (.iload_n 1, 1) := by decide +kernel
theorem dX1_firstFree_3 : decode cX1_firstFree 3 = .ok (.bipush 20, 2) := by decide +kernel
theorem dX1_firstFree_5 : decode cX1_firstFree 5 = .ok (.if_icmp .ge 21, 3) := by decide +kernel
theorem dX1_firstFree_8 : decode cX1_firstFree 8 = .ok (.aload_n 0, 1) := by decide +kernel
theorem dX1_firstFree_9 : decode cX1_firstFree 9 = .ok (.getfield 19, 3) := by decide +kernel
theorem dX1_firstFree_12 : decode cX1_firstFree 12 = .ok (.iload_n 1, 1) := by decide +kernel
theorem dX1_firstFree_13 : decode cX1_firstFree 13 = .ok (.iaload, 1) := by decide +kernel
theorem dX1_firstFree_14 : decode cX1_firstFree 14 = .ok (.iconst (-1), 1) := by decide +kernel
theorem dX1_firstFree_15 : decode cX1_firstFree 15 = .ok (.if_icmp .ne 5, 3) := by decide +kernel
theorem dX1_firstFree_18 : decode cX1_firstFree 18 = .ok (.iload_n 1, 1) := by decide +kernel
theorem dX1_firstFree_19 : decode cX1_firstFree 19 = .ok (.ireturn, 1) := by decide +kernel
theorem dX1_firstFree_20 : decode cX1_firstFree 20 = .ok (.iinc 1 1, 3) := by decide +kernel
theorem dX1_firstFree_23 : decode cX1_firstFree 23 = .ok (.goto (-21), 3) := by decide +kernel
theorem dX1_firstFree_26 : decode cX1_firstFree 26 = .ok (.iconst (-1), 1) := by decide +kernel
theorem dX1_firstFree_27 : decode cX1_firstFree 27 = .ok (.ireturn, 1) := by decide +kernel
set_option maxRecDepth 20000 in
theorem ggX1_goesTo_X1_fullest : GoodIn wsX1_goesTo wsX1_fullest := goodIn_r _ [5, 6, 7, 8, 9, 4, 10, 11, 12, 13, 14, 15, 16, 29, 30, 31, 32, 33, 34, 35, 36, 37, 38, 39, 40, 41, 42, 43] (by decide +kernel) (by decide +kernel)
set_option maxRecDepth 20000 in
theorem gX1_goesTo_X1_fullest : GoodIn wsX1_goesTo (wsV RX1 65 RX1 yX1_fullest wsX1_fullest) := goodIn_app (goodIn_of _ (by decide +kernel)) ggX1_goesTo_X1_fullest
set_option maxRecDepth 20000 in
theorem ggX1_goesTo_X1_firstEmpty : GoodIn wsX1_goesTo wsX1_firstEmpty := goodIn_r _ [20, 21, 22, 23, 4, 24, 11, 6, 29, 30, 31, 32, 33, 34, 35, 36, 37, 38, 39, 40, 41, 42, 43] (by decide +kernel) (by decide +kernel)
set_option maxRecDepth 20000 in
theorem gX1_goesTo_X1_firstEmpty : GoodIn wsX1_goesTo (wsV RX1 68 RX1 yX1_firstEmpty wsX1_firstEmpty) := goodIn_app (goodIn_of _ (by decide +kernel)) ggX1_goesTo_X1_firstEmpty
set_option maxRecDepth 20000 in
theorem ggX1_goesTo_X1_firstFree : GoodIn wsX1_goesTo wsX1_firstFree := goodIn_r _ [28, 11, 29, 30, 31, 32, 33, 34, 35, 36, 37, 38, 39, 40, 41, 42, 43] (by decide +kernel) (by decide +kernel)
set_option maxRecDepth 20000 in
theorem gX1_goesTo_X1_firstFree : GoodIn wsX1_goesTo (wsV RX1 71 RX1 yX1_firstFree wsX1_firstFree) := goodIn_app (goodIn_of _ (by decide +kernel)) ggX1_goesTo_X1_firstFree
theorem dX1_goesTo_0 : decode cX1_goesTo 0 = .ok (.aload_n 0, 1) := by decide +kernel
theorem dX1_goesTo_1 : decode cX1_goesTo 1 = .ok (.iload_n 1, 1) := by decide +kernel
theorem dX1_goesTo_2 : decode cX1_goesTo 2 = .ok (.invokevirtual 65, 3) := by decide +kernel
theorem dX1_goesTo_5 : decode cX1_goesTo 5 = .ok (.istore_n 2, 1) := by decide +kernel
theorem dX1_goesTo_6 : decode cX1_goesTo 6 = .ok (.aload_n 0, 1) := by decide +kernel
theorem dX1_goesTo_7 : decode cX1_goesTo 7 = .ok (.iload_n 1, 1) := by decide +kernel
theorem dX1_goesTo_8 : decode cX1_goesTo 8 = .ok (.invokevirtual 68, 3) := by decide +kernel
theorem dX1_goesTo_11 : decode cX1_goesTo 11 = .ok (.istore_n 3, 1) := by decide +kernel
theorem dX1_goesTo_12 : decode cX1_goesTo 12 = .ok (.iload_n 2, 1) := by decide +kernel
theorem dX1_goesTo_13 : decode cX1_goesTo 13 = .ok (.iconst (-1), 1) := by decide +kernel
theorem dX1_goesTo_14 : decode cX1_goesTo 14 = .ok (.if_icmp .eq 7, 3) := by decide +kernel
theorem dX1_goesTo_17 : decode cX1_goesTo 17 = .ok (.iload_n 2, 1) := by decide +kernel
theorem dX1_goesTo_18 : decode cX1_goesTo 18 = .ok (.goto 16, 3) := by decide +kernel
theorem dX1_goesTo_21 : decode cX1_goesTo 21 = .ok (.iload_n 3, 1) := by decide +kernel
theorem dX1_goesTo_22 : decode cX1_goesTo 22 = .ok (.iconst (-1), 1) := by decide +kernel
theorem dX1_goesTo_23 : decode cX1_goesTo 23 = .ok (.if_icmp .eq 7, 3) := by decide +kernel
theorem dX1_goesTo_26 : decode cX1_goesTo 26 = .ok (.iload_n 3, 1) := by decide +kernel
theorem dX1_goesTo_27 : decode cX1_goesTo 27 = .ok (.goto 7, 3) := by decide +kernel
theorem dX1_goesTo_30 : decode cX1_goesTo 30 = .ok (.aload_n 0, 1) := by decide +kernel
theorem dX1_goesTo_31 : decode cX1_goesTo 31 = .ok (.invokevirtual 71, 3) := by decide +kernel
theorem dX1_goesTo_34 : decode cX1_goesTo 34 = .ok (.ireturn, 1) := by decide +kernel
theorem dX1_open_0 : decode cX1_open 0 = .ok (.aload_n 0, 1) := by decide +kernel
theorem dX1_open_1 : decode cX1_open 1 = .ok (.getfield 19, 3) := by decide +kernel
theorem dX1_open_4 : decode cX1_open 4 = .ok (.iload_n 1, 1) := by decide +kernel
theorem dX1_open_5 : decode cX1_open 5 = .ok (.iload_n 2, 1) := by decide +kernel
theorem dX1_open_6 : decode cX1_open 6 = .ok (.iastore, 1) := by decide +kernel
theorem dX1_open_7 : decode cX1_open 7 = .ok (.aload_n 0, 1) := by decide +kernel
theorem dX1_open_8 : decode cX1_open 8 = .ok (.getfield 22, 3) := by decide +kernel
theorem dX1_open_11 : decode cX1_open 11 = .ok (.iload_n 1, 1) := by decide +kernel
theorem dX1_open_12 : decode cX1_open 12 = .ok (.aload_n 0, 1) := by decide +kernel
theorem dX1_open_13 : decode cX1_open 13 = .ok (.getfield 16, 3) := by decide +kernel
theorem dX1_open_16 : decode cX1_open 16 = .ok (.iload_n 2, 1) := by decide +kernel
theorem dX1_open_17 : decode cX1_open 17 = .ok (.iaload, 1) := by decide +kernel
theorem dX1_open_18 : decode cX1_open 18 = .ok (.iastore, 1) := by decide +kernel
theorem dX1_open_19 : decode cX1_open 19 = .ok (.aload_n 0, 1) := by decide +kernel
theorem dX1_open_20 : decode cX1_open 20 = .ok (.getfield 25, 3) := by decide +kernel
theorem dX1_open_23 : decode cX1_open 23 = .ok (.iload_n 1, 1) := by decide +kernel
theorem dX1_open_24 : decode cX1_open 24 = .ok (.iconst 0, 1) := by decide +kernel
theorem dX1_open_25 : decode cX1_open 25 = .ok (.iastore, 1) := by decide +kernel
theorem dX1_open_26 : decode cX1_open 26 = .ok (.iconst 0, 1) := by decide +kernel
theorem dX1_open_27 : decode cX1_open 27 = .ok (.istore_n 3, 1) := by decide +kernel
theorem dX1_open_28 : decode cX1_open 28 = .ok (.iload_n 3, 1) := by decide +kernel
theorem dX1_open_29 : decode cX1_open 29 = .ok (.bipush 64, 2) := by decide +kernel
theorem dX1_open_31 : decode cX1_open 31 = .ok (.if_icmp .ge 21, 3) := by decide +kernel
theorem dX1_open_34 : decode cX1_open 34 = .ok (.aload_n 0, 1) := by decide +kernel
theorem dX1_open_35 : decode cX1_open 35 = .ok (.getfield 28, 3) := by decide +kernel
theorem dX1_open_38 : decode cX1_open 38 = .ok (.bipush 64, 2) := by decide +kernel
theorem dX1_open_40 : decode cX1_open 40 = .ok (.iload_n 1, 1) := by decide +kernel
theorem dX1_open_41 : decode cX1_open 41 = .ok (.imul, 1) := by decide +kernel
theorem dX1_open_42 : decode cX1_open 42 = .ok (.iload_n 3, 1) := by decide +kernel
theorem dX1_open_43 : decode cX1_open 43 = .ok (.iadd, 1) := by decide +kernel
theorem dX1_open_44 : decode cX1_open 44 = .ok (.iconst (-1), 1) := by decide +kernel
theorem dX1_open_45 : decode cX1_open 45 = .ok (.iastore, 1) := by decide +kernel
theorem dX1_open_46 : decode cX1_open 46 = .ok (.iinc 3 1, 3) := by decide +kernel
theorem dX1_open_49 : decode cX1_open 49 = .ok (.goto (-21), 3) := by decide +kernel
theorem dX1_open_52 : decode cX1_open 52 = .ok (.aload_n 0, 1) := by decide +kernel
theorem dX1_open_53 : decode cX1_open 53 = .ok (.getfield 16, 3) := by decide +kernel
theorem dX1_open_56 : decode cX1_open 56 = .ok (.iload_n 2, 1) := by decide +kernel
theorem dX1_open_57 : decode cX1_open 57 = .ok (.dup2, 1) := by decide +kernel
theorem dX1_open_58 : decode cX1_open 58 = .ok (.iaload, 1) := by decide +kernel
theorem dX1_open_59 : decode cX1_open 59 = .ok (.aload_n 0, 1) := by decide +kernel
theorem dX1_open_60 : decode cX1_open 60 = .ok (.getfield 13, 3) := by decide +kernel
theorem dX1_open_63 : decode cX1_open 63 = .ok (.iload_n 2, 1) := by decide +kernel
theorem dX1_open_64 : decode cX1_open 64 = .ok (.iaload, 1) := by decide +kernel
theorem dX1_open_65 : decode cX1_open 65 = .ok (.iadd, 1) := by decide +kernel
theorem dX1_open_66 : decode cX1_open 66 = .ok (.iastore, 1) := by decide +kernel
theorem dX1_open_67 : decode cX1_open 67 = .ok (.aload_n 0, 1) := by decide +kernel
theorem dX1_open_68 : decode cX1_open 68 = .ok (.getfield 16, 3) := by decide +kernel
theorem dX1_open_71 : decode cX1_open 71 = .ok (.iload_n 2, 1) := by decide +kernel
theorem dX1_open_72 : decode cX1_open 72 = .ok (.iaload, 1) := by decide +kernel
theorem dX1_open_73 : decode cX1_open 73 = .ok (.bipush 64, 2) := by decide +kernel
theorem dX1_open_75 : decode cX1_open 75 = .ok (.aload_n 0, 1) := by decide +kernel
theorem dX1_open_76 : decode cX1_open 76 = .ok (.getfield 9, 3) := by decide +kernel
theorem dX1_open_79 : decode cX1_open 79 = .ok (.iload_n 2, 1) := by decide +kernel
theorem dX1_open_80 : decode cX1_open 80 = .ok (.iaload, 1) := by decide +kernel
theorem dX1_open_81 : decode cX1_open 81 = .ok (.irem, 1) := by decide +kernel
theorem dX1_open_82 : decode cX1_open 82 = .ok (.if_icmp .le 10, 3) := by decide +kernel
theorem dX1_open_85 : decode cX1_open 85 = .ok (.aload_n 0, 1) := by decide +kernel
theorem dX1_open_86 : decode cX1_open 86 = .ok (.getfield 16, 3) := by decide +kernel
theorem dX1_open_89 : decode cX1_open 89 = .ok (.iload_n 2, 1) := by decide +kernel
theorem dX1_open_90 : decode cX1_open 90 = .ok (.iconst 0, 1) := by decide +kernel
theorem dX1_open_91 : decode cX1_open 91 = .ok (.iastore, 1) := by decide +kernel
theorem dX1_open_92 : decode cX1_open 92 = .ok (.return_, 1) := by decide +kernel
theorem dX1_lay_0 : decode cX1_lay 0 = .ok (.aload_n 0, 1) := by decide +kernel
theorem dX1_lay_1 : decode cX1_lay 1 = .ok (.getfield 34, 3) := by decide +kernel
theorem dX1_lay_4 : decode cX1_lay 4 = .ok (.iload_n 1, 1) := by decide +kernel
theorem dX1_lay_5 : decode cX1_lay 5 = .ok (.iload_n 2, 1) := by decide +kernel
theorem dX1_lay_6 : decode cX1_lay 6 = .ok (.iastore, 1) := by decide +kernel
theorem dX1_lay_7 : decode cX1_lay 7 = .ok (.aload_n 0, 1) := by decide +kernel
theorem dX1_lay_8 : decode cX1_lay 8 = .ok (.getfield 37, 3) := by decide +kernel
theorem dX1_lay_11 : decode cX1_lay 11 = .ok (.iload_n 1, 1) := by decide +kernel
theorem dX1_lay_12 : decode cX1_lay 12 = .ok (.iload_n 3, 1) := by decide +kernel
theorem dX1_lay_13 : decode cX1_lay 13 = .ok (.iastore, 1) := by decide +kernel
theorem dX1_lay_14 : decode cX1_lay 14 = .ok (.aload_n 0, 1) := by decide +kernel
theorem dX1_lay_15 : decode cX1_lay 15 = .ok (.getfield 28, 3) := by decide +kernel
theorem dX1_lay_18 : decode cX1_lay 18 = .ok (.bipush 64, 2) := by decide +kernel
theorem dX1_lay_20 : decode cX1_lay 20 = .ok (.iload_n 2, 1) := by decide +kernel
theorem dX1_lay_21 : decode cX1_lay 21 = .ok (.imul, 1) := by decide +kernel
theorem dX1_lay_22 : decode cX1_lay 22 = .ok (.iload_n 3, 1) := by decide +kernel
theorem dX1_lay_23 : decode cX1_lay 23 = .ok (.iadd, 1) := by decide +kernel
theorem dX1_lay_24 : decode cX1_lay 24 = .ok (.iload_n 1, 1) := by decide +kernel
theorem dX1_lay_25 : decode cX1_lay 25 = .ok (.iastore, 1) := by decide +kernel
theorem dX1_lay_26 : decode cX1_lay 26 = .ok (.aload_n 0, 1) := by decide +kernel
theorem dX1_lay_27 : decode cX1_lay 27 = .ok (.getfield 25, 3) := by decide +kernel
theorem dX1_lay_30 : decode cX1_lay 30 = .ok (.iload_n 2, 1) := by decide +kernel
theorem dX1_lay_31 : decode cX1_lay 31 = .ok (.dup2, 1) := by decide +kernel
theorem dX1_lay_32 : decode cX1_lay 32 = .ok (.iaload, 1) := by decide +kernel
theorem dX1_lay_33 : decode cX1_lay 33 = .ok (.iconst 1, 1) := by decide +kernel
theorem dX1_lay_34 : decode cX1_lay 34 = .ok (.iadd, 1) := by decide +kernel
theorem dX1_lay_35 : decode cX1_lay 35 = .ok (.iastore, 1) := by decide +kernel
theorem dX1_lay_36 : decode cX1_lay 36 = .ok (.return_, 1) := by decide +kernel
theorem dX1_lift_0 : decode cX1_lift 0 = .ok (.aload_n 0, 1) := by decide +kernel
theorem dX1_lift_1 : decode cX1_lift 1 = .ok (.getfield 28, 3) := by decide +kernel
theorem dX1_lift_4 : decode cX1_lift 4 = .ok (.bipush 64, 2) := by decide +kernel
theorem dX1_lift_6 : decode cX1_lift 6 = .ok (.aload_n 0, 1) := by decide +kernel
theorem dX1_lift_7 : decode cX1_lift 7 = .ok (.getfield 34, 3) := by decide +kernel
theorem dX1_lift_10 : decode cX1_lift 10 = .ok (.iload_n 1, 1) := by decide +kernel
theorem dX1_lift_11 : decode cX1_lift 11 = .ok (.iaload, 1) := by decide +kernel
theorem dX1_lift_12 : decode cX1_lift 12 = .ok (.imul, 1) := by decide +kernel
theorem dX1_lift_13 : decode cX1_lift 13 = .ok (.aload_n 0, 1) := by decide +kernel
theorem dX1_lift_14 : decode cX1_lift 14 = .ok (.getfield 37, 3) := by decide +kernel
theorem dX1_lift_17 : decode cX1_lift 17 = .ok (.iload_n 1, 1) := by decide +kernel
theorem dX1_lift_18 : decode cX1_lift 18 = .ok (.iaload, 1) := by decide +kernel
theorem dX1_lift_19 : decode cX1_lift 19 = .ok (.iadd, 1) := by decide +kernel
theorem dX1_lift_20 : decode cX1_lift 20 = .ok (.iconst (-1), 1) := by decide +kernel
theorem dX1_lift_21 : decode cX1_lift 21 = .ok (.iastore, 1) := by decide +kernel
theorem dX1_lift_22 : decode cX1_lift 22 = .ok (.aload_n 0, 1) := by decide +kernel
theorem dX1_lift_23 : decode cX1_lift 23 = .ok (.getfield 25, 3) := by decide +kernel
theorem dX1_lift_26 : decode cX1_lift 26 = .ok (.aload_n 0, 1) := by decide +kernel
theorem dX1_lift_27 : decode cX1_lift 27 = .ok (.getfield 34, 3) := by decide +kernel
theorem dX1_lift_30 : decode cX1_lift 30 = .ok (.iload_n 1, 1) := by decide +kernel
theorem dX1_lift_31 : decode cX1_lift 31 = .ok (.iaload, 1) := by decide +kernel
theorem dX1_lift_32 : decode cX1_lift 32 = .ok (.dup2, 1) := by decide +kernel
theorem dX1_lift_33 : decode cX1_lift 33 = .ok (.iaload, 1) := by decide +kernel
theorem dX1_lift_34 : decode cX1_lift 34 = .ok (.iconst 1, 1) := by decide +kernel
theorem dX1_lift_35 : decode cX1_lift 35 = .ok (.isub, 1) := by decide +kernel
theorem dX1_lift_36 : decode cX1_lift 36 = .ok (.iastore, 1) := by decide +kernel
theorem dX1_lift_37 : decode cX1_lift 37 = .ok (.aload_n 0, 1) := by decide +kernel
theorem dX1_lift_38 : decode cX1_lift 38 = .ok (.getfield 34, 3) := by decide +kernel
theorem dX1_lift_41 : decode cX1_lift 41 = .ok (.iload_n 1, 1) := by decide +kernel
theorem dX1_lift_42 : decode cX1_lift 42 = .ok (.iconst (-1), 1) := by decide +kernel
theorem dX1_lift_43 : decode cX1_lift 43 = .ok (.iastore, 1) := by decide +kernel
theorem dX1_lift_44 : decode cX1_lift 44 = .ok (.aload_n 0, 1) := by decide +kernel
theorem dX1_lift_45 : decode cX1_lift 45 = .ok (.getfield 37, 3) := by decide +kernel
theorem dX1_lift_48 : decode cX1_lift 48 = .ok (.iload_n 1, 1) := by decide +kernel
theorem dX1_lift_49 : decode cX1_lift 49 = .ok (.iconst (-1), 1) := by decide +kernel
theorem dX1_lift_50 : decode cX1_lift 50 = .ok (.iastore, 1) := by decide +kernel
theorem dX1_lift_51 : decode cX1_lift 51 = .ok (.return_, 1) := by decide +kernel
theorem dX1_freeCell_0 : decode cX1_freeCell 0 = .ok (.iconst 0, 1) := by decide +kernel
theorem dX1_freeCell_1 : decode cX1_freeCell 1 = .ok (.istore_n 2, 1) := by decide +kernel
theorem dX1_freeCell_2 : decode cX1_freeCell 2 = .ok (.aload_n 0, 1) := by decide +kernel
theorem dX1_freeCell_3 : decode cX1_freeCell 3 = .ok (.getfield 28, 3) := by decide +kernel
theorem dX1_freeCell_6 : decode cX1_freeCell 6 = .ok (.bipush 64, 2) := by decide +kernel
theorem dX1_freeCell_8 : decode cX1_freeCell 8 = .ok (.iload_n 1, 1) := by decide +kernel
theorem dX1_freeCell_9 : decode cX1_freeCell 9 = .ok (.imul, 1) := by decide +kernel
theorem dX1_freeCell_10 : decode cX1_freeCell 10 = .ok (.iload_n 2, 1) := by decide +kernel
theorem dX1_freeCell_11 : decode cX1_freeCell 11 = .ok (.iadd, 1) := by decide +kernel
theorem dX1_freeCell_12 : decode cX1_freeCell 12 = .ok (.iaload, 1) := by decide +kernel
theorem dX1_freeCell_13 : decode cX1_freeCell 13 = .ok (.iconst (-1), 1) := by decide +kernel
theorem dX1_freeCell_14 : decode cX1_freeCell 14 = .ok (.if_icmp .eq 9, 3) := by decide +kernel
theorem dX1_freeCell_17 : decode cX1_freeCell 17 = .ok (.iinc 2 1, 3) := by decide +kernel
theorem dX1_freeCell_20 : decode cX1_freeCell 20 = .ok (.goto (-18), 3) := by decide +kernel
theorem dX1_freeCell_23 : decode cX1_freeCell 23 = .ok (.iload_n 2, 1) := by decide +kernel
theorem dX1_freeCell_24 : decode cX1_freeCell 24 = .ok (.ireturn, 1) := by decide +kernel
theorem dX1_lastThing_0 : decode cX1_lastThing 0 = .ok (.bipush 63, 2) := by decide +kernel
theorem dX1_lastThing_2 : decode cX1_lastThing 2 = .ok (.istore_n 2, 1) := by decide +kernel
theorem dX1_lastThing_3 : decode cX1_lastThing 3 = .ok (.aload_n 0, 1) := by decide +kernel
theorem dX1_lastThing_4 : decode cX1_lastThing 4 = .ok (.getfield 28, 3) := by decide +kernel
theorem dX1_lastThing_7 : decode cX1_lastThing 7 = .ok (.bipush 64, 2) := by decide +kernel
theorem dX1_lastThing_9 : decode cX1_lastThing 9 = .ok (.iload_n 1, 1) := by decide +kernel
theorem dX1_lastThing_10 : decode cX1_lastThing 10 = .ok (.imul, 1) := by decide +kernel
theorem dX1_lastThing_11 : decode cX1_lastThing 11 = .ok (.iload_n 2, 1) := by decide +kernel
theorem dX1_lastThing_12 : decode cX1_lastThing 12 = .ok (.iadd, 1) := by decide +kernel
theorem dX1_lastThing_13 : decode cX1_lastThing 13 = .ok (.iaload, 1) := by decide +kernel
theorem dX1_lastThing_14 : decode cX1_lastThing 14 = .ok (.iconst (-1), 1) := by decide +kernel
theorem dX1_lastThing_15 : decode cX1_lastThing 15 = .ok (.if_icmp .ne 9, 3) := by decide +kernel
theorem dX1_lastThing_18 : decode cX1_lastThing 18 = .ok (.iinc 2 (-1), 3) := by decide +kernel
theorem dX1_lastThing_21 : decode cX1_lastThing 21 = .ok (.goto (-18), 3) := by decide +kernel
theorem dX1_lastThing_24 : decode cX1_lastThing 24 = .ok (.aload_n 0, 1) := by decide +kernel
theorem dX1_lastThing_25 : decode cX1_lastThing 25 = .ok (.getfield 28, 3) := by decide +kernel
theorem dX1_lastThing_28 : decode cX1_lastThing 28 = .ok (.bipush 64, 2) := by decide +kernel
theorem dX1_lastThing_30 : decode cX1_lastThing 30 = .ok (.iload_n 1, 1) := by decide +kernel
theorem dX1_lastThing_31 : decode cX1_lastThing 31 = .ok (.imul, 1) := by decide +kernel
theorem dX1_lastThing_32 : decode cX1_lastThing 32 = .ok (.iload_n 2, 1) := by decide +kernel
theorem dX1_lastThing_33 : decode cX1_lastThing 33 = .ok (.iadd, 1) := by decide +kernel
theorem dX1_lastThing_34 : decode cX1_lastThing 34 = .ok (.iaload, 1) := by decide +kernel
theorem dX1_lastThing_35 : decode cX1_lastThing 35 = .ok (.ireturn, 1) := by decide +kernel
theorem dX1_close_0 : decode cX1_close 0 = .ok (.aload_n 0, 1) := by decide +kernel
theorem dX1_close_1 : decode cX1_close 1 = .ok (.getfield 19, 3) := by decide +kernel
theorem dX1_close_4 : decode cX1_close 4 = .ok (.iload_n 1, 1) := by decide +kernel
theorem dX1_close_5 : decode cX1_close 5 = .ok (.iconst (-1), 1) := by decide +kernel
theorem dX1_close_6 : decode cX1_close 6 = .ok (.iastore, 1) := by decide +kernel
theorem dX1_close_7 : decode cX1_close 7 = .ok (.aload_n 0, 1) := by decide +kernel
theorem dX1_close_8 : decode cX1_close 8 = .ok (.dup, 1) := by decide +kernel
theorem dX1_close_9 : decode cX1_close 9 = .ok (.getfield 75, 3) := by decide +kernel
theorem dX1_close_12 : decode cX1_close 12 = .ok (.iconst 1, 1) := by decide +kernel
theorem dX1_close_13 : decode cX1_close 13 = .ok (.iadd, 1) := by decide +kernel
theorem dX1_close_14 : decode cX1_close 14 = .ok (.putfield 75, 3) := by decide +kernel
theorem dX1_close_17 : decode cX1_close 17 = .ok (.return_, 1) := by decide +kernel
set_option maxRecDepth 20000 in
theorem ggX1_empties_X1_isEmpty : GoodIn wsX1_empties wsX1_isEmpty := goodIn_r _ [5, 6, 7, 8, 9, 10, 11, 12, 13, 14, 15, 16, 17, 18, 19, 20, 21, 22] (by decide +kernel) (by decide +kernel)
set_option maxRecDepth 20000 in
theorem gX1_empties_X1_isEmpty : GoodIn wsX1_empties (wsV RX1 62 RX1 yX1_isEmpty wsX1_isEmpty) := goodIn_app (goodIn_of _ (by decide +kernel)) ggX1_empties_X1_isEmpty
theorem dX1_empties_0 : decode cX1_empties 0 = .ok (.iconst 0, 1) := by decide +kernel
theorem dX1_empties_1 : decode cX1_empties 1 = .ok (.istore_n 2, 1) := by decide +kernel
theorem dX1_empties_2 : decode cX1_empties 2 = .ok (.iconst 0, 1) := by decide +kernel
theorem dX1_empties_3 : decode cX1_empties 3 = .ok (.istore_n 3, 1) := by decide +kernel
theorem dX1_empties_4 : decode cX1_empties 4 = .ok (.iload_n 3, 1) := by decide +kernel
theorem dX1_empties_5 : decode cX1_empties 5 = .ok (.bipush 20, 2) := by decide +kernel
theorem dX1_empties_7 : decode cX1_empties 7 = .ok (.if_icmp .ge 26, 3) := by decide +kernel
theorem dX1_empties_10 : decode cX1_empties 10 = .ok (.iload_n 2, 1) := by decide +kernel
theorem dX1_empties_11 : decode cX1_empties 11 = .ok (.aload_n 0, 1) := by decide +kernel
theorem dX1_empties_12 : decode cX1_empties 12 = .ok (.iload_n 3, 1) := by decide +kernel
theorem dX1_empties_13 : decode cX1_empties 13 = .ok (.iload_n 1, 1) := by decide +kernel
theorem dX1_empties_14 : decode cX1_empties 14 = .ok (.invokevirtual 62, 3) := by decide +kernel
theorem dX1_empties_17 : decode cX1_empties 17 = .ok (.ifCond .eq 7, 3) := by decide +kernel
theorem dX1_empties_20 : decode cX1_empties 20 = .ok (.iconst 1, 1) := by decide +kernel
theorem dX1_empties_21 : decode cX1_empties 21 = .ok (.goto 4, 3) := by decide +kernel
theorem dX1_empties_24 : decode cX1_empties 24 = .ok (.iconst 0, 1) := by decide +kernel
theorem dX1_empties_25 : decode cX1_empties 25 = .ok (.iadd, 1) := by decide +kernel
theorem dX1_empties_26 : decode cX1_empties 26 = .ok (.istore_n 2, 1) := by decide +kernel
theorem dX1_empties_27 : decode cX1_empties 27 = .ok (.iinc 3 1, 3) := by decide +kernel
theorem dX1_empties_30 : decode cX1_empties 30 = .ok (.goto (-26), 3) := by decide +kernel
theorem dX1_empties_33 : decode cX1_empties 33 = .ok (.iload_n 2, 1) := by decide +kernel
theorem dX1_empties_34 : decode cX1_empties 34 = .ok (.ireturn, 1) := by decide +kernel
set_option maxRecDepth 20000 in
theorem ggX1_kind_X1_isIn : GoodIn wsX1_kind wsX1_isIn := goodIn_r _ [8] (by decide +kernel) (by decide +kernel)
set_option maxRecDepth 20000 in
theorem gX1_kind_X1_isIn : GoodIn wsX1_kind (va_wsS RX1 47 yX1_isIn wsX1_isIn) := goodIn_app (goodIn_of _ (by decide +kernel)) ggX1_kind_X1_isIn
set_option maxRecDepth 20000 in
theorem ggX1_kind_X1_no : GoodIn wsX1_kind wsX1_no := goodIn_r _ [12, 1, 13, 14, 15, 16, 17, 18, 19, 20, 21, 22, 23, 24, 25, 26, 27] (by decide +kernel) (by decide +kernel)
set_option maxRecDepth 20000 in
theorem gX1_kind_X1_no : GoodIn wsX1_kind (wsV RX1 78 RX1 yX1_no wsX1_no) := goodIn_app (goodIn_of _ (by decide +kernel)) ggX1_kind_X1_no
theorem dX1_kind_0 : decode cX1_kind 0 = .ok (.aload_n 0, 1) := by decide +kernel
theorem dX1_kind_1 : decode cX1_kind 1 = .ok (.iconst 0, 1) := by decide +kernel
theorem dX1_kind_2 : decode cX1_kind 2 = .ok (.putfield 40, 3) := by decide +kernel
theorem dX1_kind_5 : decode cX1_kind 5 = .ok (.iload_n 1, 1) := by decide +kernel
theorem dX1_kind_6 : decode cX1_kind 6 = .ok (.iconst 1, 1) := by decide +kernel
theorem dX1_kind_7 : decode cX1_kind 7 = .ok (.bipush 32, 2) := by decide +kernel
theorem dX1_kind_9 : decode cX1_kind 9 = .ok (.invokestatic 47, 3) := by decide +kernel
theorem dX1_kind_12 : decode cX1_kind 12 = .ok (.ifCond .eq 13, 3) := by decide +kernel
theorem dX1_kind_15 : decode cX1_kind 15 = .ok (.iload_n 2, 1) := by decide +kernel
theorem dX1_kind_16 : decode cX1_kind 16 = .ok (.iconst 1, 1) := by decide +kernel
theorem dX1_kind_17 : decode cX1_kind 17 = .ok (.bipush 16, 2) := by decide +kernel
theorem dX1_kind_19 : decode cX1_kind 19 = .ok (.invokestatic 47, 3) := by decide +kernel
theorem dX1_kind_22 : decode cX1_kind 22 = .ok (.ifCond .ne 9, 3) := by decide +kernel
theorem dX1_kind_25 : decode cX1_kind 25 = .ok (.aload_n 0, 1) := by decide +kernel
theorem dX1_kind_26 : decode cX1_kind 26 = .ok (.iconst 1, 1) := by decide +kernel
theorem dX1_kind_27 : decode cX1_kind 27 = .ok (.invokevirtual 78, 3) := by decide +kernel
theorem dX1_kind_30 : decode cX1_kind 30 = .ok (.ireturn, 1) := by decide +kernel
theorem dX1_kind_31 : decode cX1_kind 31 = .ok (.aload_n 0, 1) := by decide +kernel
theorem dX1_kind_32 : decode cX1_kind 32 = .ok (.getfield 44, 3) := by decide +kernel
theorem dX1_kind_35 : decode cX1_kind 35 = .ok (.bipush 6, 2) := by decide +kernel
theorem dX1_kind_37 : decode cX1_kind 37 = .ok (.if_icmp .ne 9, 3) := by decide +kernel
theorem dX1_kind_40 : decode cX1_kind 40 = .ok (.aload_n 0, 1) := by decide +kernel
theorem dX1_kind_41 : decode cX1_kind 41 = .ok (.iconst 2, 1) := by decide +kernel
theorem dX1_kind_42 : decode cX1_kind 42 = .ok (.invokevirtual 78, 3) := by decide +kernel
theorem dX1_kind_45 : decode cX1_kind 45 = .ok (.ireturn, 1) := by decide +kernel
theorem dX1_kind_46 : decode cX1_kind 46 = .ok (.aload_n 0, 1) := by decide +kernel
theorem dX1_kind_47 : decode cX1_kind 47 = .ok (.getfield 9, 3) := by decide +kernel
theorem dX1_kind_50 : decode cX1_kind 50 = .ok (.aload_n 0, 1) := by decide +kernel
theorem dX1_kind_51 : decode cX1_kind 51 = .ok (.getfield 44, 3) := by decide +kernel
theorem dX1_kind_54 : decode cX1_kind 54 = .ok (.iload_n 1, 1) := by decide +kernel
theorem dX1_kind_55 : decode cX1_kind 55 = .ok (.iastore, 1) := by decide +kernel
theorem dX1_kind_56 : decode cX1_kind 56 = .ok (.aload_n 0, 1) := by decide +kernel
theorem dX1_kind_57 : decode cX1_kind 57 = .ok (.getfield 13, 3) := by decide +kernel
theorem dX1_kind_60 : decode cX1_kind 60 = .ok (.aload_n 0, 1) := by decide +kernel
theorem dX1_kind_61 : decode cX1_kind 61 = .ok (.getfield 44, 3) := by decide +kernel
theorem dX1_kind_64 : decode cX1_kind 64 = .ok (.iload_n 2, 1) := by decide +kernel
theorem dX1_kind_65 : decode cX1_kind 65 = .ok (.iastore, 1) := by decide +kernel
theorem dX1_kind_66 : decode cX1_kind 66 = .ok (.aload_n 0, 1) := by decide +kernel
theorem dX1_kind_67 : decode cX1_kind 67 = .ok (.dup, 1) := by decide +kernel
theorem dX1_kind_68 : decode cX1_kind 68 = .ok (.getfield 44, 3) := by decide +kernel
theorem dX1_kind_71 : decode cX1_kind 71 = .ok (.iconst 1, 1) := by decide +kernel
theorem dX1_kind_72 : decode cX1_kind 72 = .ok (.iadd, 1) := by decide +kernel
theorem dX1_kind_73 : decode cX1_kind 73 = .ok (.putfield 44, 3) := by decide +kernel
theorem dX1_kind_76 : decode cX1_kind 76 = .ok (.aload_n 0, 1) := by decide +kernel
theorem dX1_kind_77 : decode cX1_kind 77 = .ok (.getfield 44, 3) := by decide +kernel
theorem dX1_kind_80 : decode cX1_kind 80 = .ok (.iconst 1, 1) := by decide +kernel
theorem dX1_kind_81 : decode cX1_kind 81 = .ok (.isub, 1) := by decide +kernel
theorem dX1_kind_82 : decode cX1_kind 82 = .ok (.ireturn, 1) := by decide +kernel
set_option maxRecDepth 20000 in
theorem ggX1_put_X1_isKind : GoodIn wsX1_put wsX1_isKind := goodIn_r _ [9, 10, 11, 12, 8, 13, 66, 67, 68, 69, 70, 71, 72, 73, 74, 75, 76, 77, 78, 79, 80] (by decide +kernel) (by decide +kernel)
set_option maxRecDepth 20000 in
theorem gX1_put_X1_isKind : GoodIn wsX1_put (wsV RX1 81 RX1 yX1_isKind wsX1_isKind) := goodIn_app (goodIn_of _ (by decide +kernel)) ggX1_put_X1_isKind
set_option maxRecDepth 20000 in
theorem ggX1_put_X1_no : GoodIn wsX1_put wsX1_no := goodIn_r _ [17, 1, 66, 67, 68, 69, 70, 71, 72, 73, 74, 75, 76, 77, 78, 79, 80] (by decide +kernel) (by decide +kernel)
set_option maxRecDepth 20000 in
theorem gX1_put_X1_no : GoodIn wsX1_put (wsV RX1 78 RX1 yX1_no wsX1_no) := goodIn_app (goodIn_of _ (by decide +kernel)) ggX1_put_X1_no
set_option maxRecDepth 20000 in
theorem ggX1_put_X1_goesTo : GoodIn wsX1_put wsX1_goesTo := goodIn_r _ [21, 22, 23, 24, 8, 25, 26, 27, 28, 29, 30, 3, 31, 32, 33, 34, 35, 36, 37, 38, 39, 40, 41, 42, 43, 44, 45, 46, 47, 66, 67, 68, 69, 70, 71, 72, 73, 74, 75, 76, 77, 78, 79, 80] (by decide +kernel) (by decide +kernel)
set_option maxRecDepth 20000 in
theorem gX1_put_X1_goesTo : GoodIn wsX1_put (wsV RX1 85 RX1 yX1_goesTo wsX1_goesTo) := goodIn_app (goodIn_of _ (by decide +kernel)) ggX1_put_X1_goesTo
set_option maxRecDepth 20000 in
theorem ggX1_put_X1_open : GoodIn wsX1_put wsX1_open := goodIn_r _ [51, 3, 52, 53, 26, 54, 55, 35, 66, 67, 68, 69, 70, 71, 72, 73, 74, 75, 76, 77, 78, 79, 80] (by decide +kernel) (by decide +kernel)
set_option maxRecDepth 20000 in
theorem gX1_put_X1_open : GoodIn wsX1_put (wsV RX1 88 RX1 yX1_open wsX1_open) := goodIn_app (goodIn_of _ (by decide +kernel)) ggX1_put_X1_open
set_option maxRecDepth 20000 in
theorem ggX1_put_X1_freeCell : GoodIn wsX1_put wsX1_freeCell := goodIn_r _ [59, 54, 66, 67, 68, 69, 70, 71, 72, 73, 74, 75, 76, 77, 78, 79, 80] (by decide +kernel) (by decide +kernel)
set_option maxRecDepth 20000 in
theorem gX1_put_X1_freeCell : GoodIn wsX1_put (wsV RX1 92 RX1 yX1_freeCell wsX1_freeCell) := goodIn_app (goodIn_of _ (by decide +kernel)) ggX1_put_X1_freeCell
set_option maxRecDepth 20000 in
theorem ggX1_put_X1_lay : GoodIn wsX1_put wsX1_lay := goodIn_r _ [63, 64, 65, 54, 26, 66, 67, 68, 69, 70, 71, 72, 73, 74, 75, 76, 77, 78, 79, 80] (by decide +kernel) (by decide +kernel)
set_option maxRecDepth 20000 in
theorem gX1_put_X1_lay : GoodIn wsX1_put (wsV RX1 95 RX1 yX1_lay wsX1_lay) := goodIn_app (goodIn_of _ (by decide +kernel)) ggX1_put_X1_lay
theorem dX1_put_0 : decode cX1_put 0 = .ok (.aload_n 0, 1) := by decide +kernel
theorem dX1_put_1 : decode cX1_put 1 = .ok (.iconst 0, 1) := by decide +kernel
theorem dX1_put_2 : decode cX1_put 2 = .ok (.putfield 40, 3) := by decide +kernel
theorem dX1_put_5 : decode cX1_put 5 = .ok (.aload_n 0, 1) := by decide +kernel
theorem dX1_put_6 : decode cX1_put 6 = .ok (.iload_n 1, 1) := by decide +kernel
theorem dX1_put_7 : decode cX1_put 7 = .ok (.invokevirtual 81, 3) := by decide +kernel
theorem dX1_put_10 : decode cX1_put 10 = .ok (.ifCond .ne 9, 3) := by decide +kernel
theorem dX1_put_13 : decode cX1_put 13 = .ok (.aload_n 0, 1) := by decide +kernel
theorem dX1_put_14 : decode cX1_put 14 = .ok (.iconst 1, 1) := by decide +kernel
theorem dX1_put_15 : decode cX1_put 15 = .ok (.invokevirtual 78, 3) := by decide +kernel
theorem dX1_put_18 : decode cX1_put 18 = .ok (.ireturn, 1) := by decide +kernel
theorem dX1_put_19 : decode cX1_put 19 = .ok (.aload_n 0, 1) := by decide +kernel
theorem dX1_put_20 : decode cX1_put 20 = .ok (.iload_n 1, 1) := by decide +kernel
theorem dX1_put_21 : decode cX1_put 21 = .ok (.invokevirtual 85, 3) := by decide +kernel
theorem dX1_put_24 : decode cX1_put 24 = .ok (.istore_n 2, 1) := by decide +kernel
theorem dX1_put_25 : decode cX1_put 25 = .ok (.aload_n 0, 1) := by decide +kernel
theorem dX1_put_26 : decode cX1_put 26 = .ok (.getfield 51, 3) := by decide +kernel
theorem dX1_put_29 : decode cX1_put 29 = .ok (.sipush 150, 3) := by decide +kernel
theorem dX1_put_32 : decode cX1_put 32 = .ok (.if_icmp .eq 8, 3) := by decide +kernel
theorem dX1_put_35 : decode cX1_put 35 = .ok (.iload_n 2, 1) := by decide +kernel
theorem dX1_put_36 : decode cX1_put 36 = .ok (.iconst (-1), 1) := by decide +kernel
theorem dX1_put_37 : decode cX1_put 37 = .ok (.if_icmp .ne 9, 3) := by decide +kernel
theorem dX1_put_40 : decode cX1_put 40 = .ok (.aload_n 0, 1) := by decide +kernel
theorem dX1_put_41 : decode cX1_put 41 = .ok (.iconst 2, 1) := by decide +kernel
theorem dX1_put_42 : decode cX1_put 42 = .ok (.invokevirtual 78, 3) := by decide +kernel
theorem dX1_put_45 : decode cX1_put 45 = .ok (.ireturn, 1) := by decide +kernel
theorem dX1_put_46 : decode cX1_put 46 = .ok (.aload_n 0, 1) := by decide +kernel
theorem dX1_put_47 : decode cX1_put 47 = .ok (.getfield 19, 3) := by decide +kernel
theorem dX1_put_50 : decode cX1_put 50 = .ok (.iload_n 2, 1) := by decide +kernel
theorem dX1_put_51 : decode cX1_put 51 = .ok (.iaload, 1) := by decide +kernel
theorem dX1_put_52 : decode cX1_put 52 = .ok (.iconst (-1), 1) := by decide +kernel
theorem dX1_put_53 : decode cX1_put 53 = .ok (.if_icmp .ne 9, 3) := by decide +kernel
theorem dX1_put_56 : decode cX1_put 56 = .ok (.aload_n 0, 1) := by decide +kernel
theorem dX1_put_57 : decode cX1_put 57 = .ok (.iload_n 2, 1) := by decide +kernel
theorem dX1_put_58 : decode cX1_put 58 = .ok (.iload_n 1, 1) := by decide +kernel
theorem dX1_put_59 : decode cX1_put 59 = .ok (.invokevirtual 88, 3) := by decide +kernel
theorem dX1_put_62 : decode cX1_put 62 = .ok (.aload_n 0, 1) := by decide +kernel
theorem dX1_put_63 : decode cX1_put 63 = .ok (.getfield 31, 3) := by decide +kernel
theorem dX1_put_66 : decode cX1_put 66 = .ok (.aload_n 0, 1) := by decide +kernel
theorem dX1_put_67 : decode cX1_put 67 = .ok (.getfield 51, 3) := by decide +kernel
theorem dX1_put_70 : decode cX1_put 70 = .ok (.iload_n 1, 1) := by decide +kernel
theorem dX1_put_71 : decode cX1_put 71 = .ok (.iastore, 1) := by decide +kernel
theorem dX1_put_72 : decode cX1_put 72 = .ok (.aload_n 0, 1) := by decide +kernel
theorem dX1_put_73 : decode cX1_put 73 = .ok (.aload_n 0, 1) := by decide +kernel
theorem dX1_put_74 : decode cX1_put 74 = .ok (.getfield 51, 3) := by decide +kernel
theorem dX1_put_77 : decode cX1_put 77 = .ok (.iload_n 2, 1) := by decide +kernel
theorem dX1_put_78 : decode cX1_put 78 = .ok (.aload_n 0, 1) := by decide +kernel
theorem dX1_put_79 : decode cX1_put 79 = .ok (.iload_n 2, 1) := by decide +kernel
theorem dX1_put_80 : decode cX1_put 80 = .ok (.invokevirtual 92, 3) := by decide +kernel
theorem dX1_put_83 : decode cX1_put 83 = .ok (.invokevirtual 95, 3) := by decide +kernel
theorem dX1_put_86 : decode cX1_put 86 = .ok (.aload_n 0, 1) := by decide +kernel
theorem dX1_put_87 : decode cX1_put 87 = .ok (.dup, 1) := by decide +kernel
theorem dX1_put_88 : decode cX1_put 88 = .ok (.getfield 51, 3) := by decide +kernel
theorem dX1_put_91 : decode cX1_put 91 = .ok (.iconst 1, 1) := by decide +kernel
theorem dX1_put_92 : decode cX1_put 92 = .ok (.iadd, 1) := by decide +kernel
theorem dX1_put_93 : decode cX1_put 93 = .ok (.putfield 51, 3) := by decide +kernel
theorem dX1_put_96 : decode cX1_put 96 = .ok (.aload_n 0, 1) := by decide +kernel
theorem dX1_put_97 : decode cX1_put 97 = .ok (.getfield 51, 3) := by decide +kernel
theorem dX1_put_100 : decode cX1_put 100 = .ok (.iconst 1, 1) := by decide +kernel
theorem dX1_put_101 : decode cX1_put 101 = .ok (.isub, 1) := by decide +kernel
theorem dX1_put_102 : decode cX1_put 102 = .ok (.ireturn, 1) := by decide +kernel
set_option maxRecDepth 20000 in
theorem ggX1_take_X1_isThing : GoodIn wsX1_take wsX1_isThing := goodIn_r _ [9, 10, 11, 12, 8, 13, 33, 34, 35, 36, 37, 38, 39, 40, 41, 42, 43, 44, 45, 46, 47] (by decide +kernel) (by decide +kernel)
set_option maxRecDepth 20000 in
theorem gX1_take_X1_isThing : GoodIn wsX1_take (wsV RX1 99 RX1 yX1_isThing wsX1_isThing) := goodIn_app (goodIn_of _ (by decide +kernel)) ggX1_take_X1_isThing
set_option maxRecDepth 20000 in
theorem ggX1_take_X1_lift : GoodIn wsX1_take wsX1_lift := goodIn_r _ [17, 18, 1, 19, 3, 33, 34, 35, 36, 37, 38, 39, 40, 41, 42, 43, 44, 45, 46, 47] (by decide +kernel) (by decide +kernel)
set_option maxRecDepth 20000 in
theorem gX1_take_X1_lift : GoodIn wsX1_take (wsV RX1 102 RX1 yX1_lift wsX1_lift) := goodIn_app (goodIn_of _ (by decide +kernel)) ggX1_take_X1_lift
set_option maxRecDepth 20000 in
theorem ggX1_take_X1_empties : GoodIn wsX1_take wsX1_empties := goodIn_r _ [23, 24, 25, 26, 8, 27, 4, 3, 33, 34, 35, 36, 37, 38, 39, 40, 41, 42, 43, 44, 45, 46, 47] (by decide +kernel) (by decide +kernel)
set_option maxRecDepth 20000 in
theorem gX1_take_X1_empties : GoodIn wsX1_take (wsV RX1 106 RX1 yX1_empties wsX1_empties) := goodIn_app (goodIn_of _ (by decide +kernel)) ggX1_take_X1_empties
set_option maxRecDepth 20000 in
theorem ggX1_take_X1_close : GoodIn wsX1_take wsX1_close := goodIn_r _ [31, 4, 32, 33, 34, 35, 36, 37, 38, 39, 40, 41, 42, 43, 44, 45, 46, 47] (by decide +kernel) (by decide +kernel)
set_option maxRecDepth 20000 in
theorem gX1_take_X1_close : GoodIn wsX1_take (wsV RX1 109 RX1 yX1_close wsX1_close) := goodIn_app (goodIn_of _ (by decide +kernel)) ggX1_take_X1_close
theorem dX1_take_0 : decode cX1_take 0 = .ok (.aload_n 0, 1) := by decide +kernel
theorem dX1_take_1 : decode cX1_take 1 = .ok (.aload_n 0, 1) := by decide +kernel
theorem dX1_take_2 : decode cX1_take 2 = .ok (.iload_n 1, 1) := by decide +kernel
theorem dX1_take_3 : decode cX1_take 3 = .ok (.invokevirtual 99, 3) := by decide +kernel
theorem dX1_take_6 : decode cX1_take 6 = .ok (.ifCond .ne 7, 3) := by decide +kernel
theorem dX1_take_9 : decode cX1_take 9 = .ok (.iconst 1, 1) := by decide +kernel
theorem dX1_take_10 : decode cX1_take 10 = .ok (.goto 18, 3) := by decide +kernel
theorem dX1_take_13 : decode cX1_take 13 = .ok (.aload_n 0, 1) := by decide +kernel
theorem dX1_take_14 : decode cX1_take 14 = .ok (.getfield 34, 3) := by decide +kernel
theorem dX1_take_17 : decode cX1_take 17 = .ok (.iload_n 1, 1) := by decide +kernel
theorem dX1_take_18 : decode cX1_take 18 = .ok (.iaload, 1) := by decide +kernel
theorem dX1_take_19 : decode cX1_take 19 = .ok (.iconst (-1), 1) := by decide +kernel
theorem dX1_take_20 : decode cX1_take 20 = .ok (.if_icmp .ne 7, 3) := by decide +kernel
theorem dX1_take_23 : decode cX1_take 23 = .ok (.iconst 2, 1) := by decide +kernel
theorem dX1_take_24 : decode cX1_take 24 = .ok (.goto 4, 3) := by decide +kernel
theorem dX1_take_27 : decode cX1_take 27 = .ok (.iconst 0, 1) := by decide +kernel
theorem dX1_take_28 : decode cX1_take 28 = .ok (.putfield 40, 3) := by decide +kernel
theorem dX1_take_31 : decode cX1_take 31 = .ok (.aload_n 0, 1) := by decide +kernel
theorem dX1_take_32 : decode cX1_take 32 = .ok (.getfield 40, 3) := by decide +kernel
theorem dX1_take_35 : decode cX1_take 35 = .ok (.ifCond .eq 5, 3) := by decide +kernel
theorem dX1_take_38 : decode cX1_take 38 = .ok (.iconst 0, 1) := by decide +kernel
theorem dX1_take_39 : decode cX1_take 39 = .ok (.ireturn, 1) := by decide +kernel
theorem dX1_take_40 : decode cX1_take 40 = .ok (.aload_n 0, 1) := by decide +kernel
theorem dX1_take_41 : decode cX1_take 41 = .ok (.getfield 34, 3) := by decide +kernel
theorem dX1_take_44 : decode cX1_take 44 = .ok (.iload_n 1, 1) := by decide +kernel
theorem dX1_take_45 : decode cX1_take 45 = .ok (.iaload, 1) := by decide +kernel
theorem dX1_take_46 : decode cX1_take 46 = .ok (.istore_n 2, 1) := by decide +kernel
theorem dX1_take_47 : decode cX1_take 47 = .ok (.aload_n 0, 1) := by decide +kernel
theorem dX1_take_48 : decode cX1_take 48 = .ok (.iload_n 1, 1) := by decide +kernel
theorem dX1_take_49 : decode cX1_take 49 = .ok (.invokevirtual 102, 3) := by decide +kernel
theorem dX1_take_52 : decode cX1_take 52 = .ok (.aload_n 0, 1) := by decide +kernel
theorem dX1_take_53 : decode cX1_take 53 = .ok (.getfield 25, 3) := by decide +kernel
theorem dX1_take_56 : decode cX1_take 56 = .ok (.iload_n 2, 1) := by decide +kernel
theorem dX1_take_57 : decode cX1_take 57 = .ok (.iaload, 1) := by decide +kernel
theorem dX1_take_58 : decode cX1_take 58 = .ok (.ifCond .gt 17, 3) := by decide +kernel
theorem dX1_take_61 : decode cX1_take 61 = .ok (.aload_n 0, 1) := by decide +kernel
theorem dX1_take_62 : decode cX1_take 62 = .ok (.aload_n 0, 1) := by decide +kernel
theorem dX1_take_63 : decode cX1_take 63 = .ok (.getfield 19, 3) := by decide +kernel
theorem dX1_take_66 : decode cX1_take 66 = .ok (.iload_n 2, 1) := by decide +kernel
theorem dX1_take_67 : decode cX1_take 67 = .ok (.iaload, 1) := by decide +kernel
theorem dX1_take_68 : decode cX1_take 68 = .ok (.invokevirtual 106, 3) := by decide +kernel
theorem dX1_take_71 : decode cX1_take 71 = .ok (.iconst 2, 1) := by decide +kernel
theorem dX1_take_72 : decode cX1_take 72 = .ok (.if_icmp .ge 5, 3) := by decide +kernel
theorem dX1_take_75 : decode cX1_take 75 = .ok (.iconst 0, 1) := by decide +kernel
theorem dX1_take_76 : decode cX1_take 76 = .ok (.ireturn, 1) := by decide +kernel
theorem dX1_take_77 : decode cX1_take 77 = .ok (.aload_n 0, 1) := by decide +kernel
theorem dX1_take_78 : decode cX1_take 78 = .ok (.iload_n 2, 1) := by decide +kernel
theorem dX1_take_79 : decode cX1_take 79 = .ok (.invokevirtual 109, 3) := by decide +kernel
theorem dX1_take_82 : decode cX1_take 82 = .ok (.iconst 1, 1) := by decide +kernel
theorem dX1_take_83 : decode cX1_take 83 = .ok (.ireturn, 1) := by decide +kernel
set_option maxRecDepth 20000 in
theorem ggX1_sweep_X1_close : GoodIn wsX1_sweep wsX1_close := goodIn_r _ [9, 3, 2, 10, 11, 12, 13, 14, 15, 16, 17, 18, 19, 20, 21, 22, 23, 24] (by decide +kernel) (by decide +kernel)
set_option maxRecDepth 20000 in
theorem gX1_sweep_X1_close : GoodIn wsX1_sweep (wsV RX1 109 RX1 yX1_close wsX1_close) := goodIn_app (goodIn_of _ (by decide +kernel)) ggX1_sweep_X1_close
theorem dX1_sweep_0 : decode cX1_sweep 0 = .ok (.aload_n 0, 1) := by decide +kernel
theorem dX1_sweep_1 : decode cX1_sweep 1 = .ok (.iconst 0, 1) := by decide +kernel
theorem dX1_sweep_2 : decode cX1_sweep 2 = .ok (.putfield 40, 3) := by decide +kernel
theorem dX1_sweep_5 : decode cX1_sweep 5 = .ok (.aload_n 0, 1) := by decide +kernel
theorem dX1_sweep_6 : decode cX1_sweep 6 = .ok (.getfield 75, 3) := by decide +kernel
theorem dX1_sweep_9 : decode cX1_sweep 9 = .ok (.istore_n 1, 1) := by decide +kernel
theorem dX1_sweep_10 : decode cX1_sweep 10 = .ok (.iconst 0, 1) := by decide +kernel
theorem dX1_sweep_11 : decode cX1_sweep 11 = .ok (.istore_n 2, 1) := by decide +kernel
theorem dX1_sweep_12 : decode cX1_sweep 12 = .ok (.iload_n 2, 1) := by decide +kernel
theorem dX1_sweep_13 : decode cX1_sweep 13 = .ok (.bipush 20, 2) := by decide +kernel
theorem dX1_sweep_15 : decode cX1_sweep 15 = .ok (.if_icmp .ge 33, 3) := by decide +kernel
theorem dX1_sweep_18 : decode cX1_sweep 18 = .ok (.aload_n 0, 1) := by decide +kernel
theorem dX1_sweep_19 : decode cX1_sweep 19 = .ok (.getfield 19, 3) := by decide +kernel
theorem dX1_sweep_22 : decode cX1_sweep 22 = .ok (.iload_n 2, 1) := by decide +kernel
theorem dX1_sweep_23 : decode cX1_sweep 23 = .ok (.iaload, 1) := by decide +kernel
theorem dX1_sweep_24 : decode cX1_sweep 24 = .ok (.iconst (-1), 1) := by decide +kernel
theorem dX1_sweep_25 : decode cX1_sweep 25 = .ok (.if_icmp .eq 17, 3) := by decide +kernel
theorem dX1_sweep_28 : decode cX1_sweep 28 = .ok (.aload_n 0, 1) := by decide +kernel
theorem dX1_sweep_29 : decode cX1_sweep 29 = .ok (.getfield 25, 3) := by decide +kernel
theorem dX1_sweep_32 : decode cX1_sweep 32 = .ok (.iload_n 2, 1) := by decide +kernel
theorem dX1_sweep_33 : decode cX1_sweep 33 = .ok (.iaload, 1) := by decide +kernel
theorem dX1_sweep_34 : decode cX1_sweep 34 = .ok (.ifCond .ne 8, 3) := by decide +kernel
theorem dX1_sweep_37 : decode cX1_sweep 37 = .ok (.aload_n 0, 1) := by decide +kernel
theorem dX1_sweep_38 : decode cX1_sweep 38 = .ok (.iload_n 2, 1) := by decide +kernel
theorem dX1_sweep_39 : decode cX1_sweep 39 = .ok (.invokevirtual 109, 3) := by decide +kernel
theorem dX1_sweep_42 : decode cX1_sweep 42 = .ok (.iinc 2 1, 3) := by decide +kernel
theorem dX1_sweep_45 : decode cX1_sweep 45 = .ok (.goto (-33), 3) := by decide +kernel
theorem dX1_sweep_48 : decode cX1_sweep 48 = .ok (.aload_n 0, 1) := by decide +kernel
theorem dX1_sweep_49 : decode cX1_sweep 49 = .ok (.getfield 75, 3) := by decide +kernel
theorem dX1_sweep_52 : decode cX1_sweep 52 = .ok (.iload_n 1, 1) := by decide +kernel
theorem dX1_sweep_53 : decode cX1_sweep 53 = .ok (.isub, 1) := by decide +kernel
theorem dX1_sweep_54 : decode cX1_sweep 54 = .ok (.ireturn, 1) := by decide +kernel
set_option maxRecDepth 20000 in
theorem ggX1_pack_X1_isKind : GoodIn wsX1_pack wsX1_isKind := goodIn_r _ [7, 8, 9, 10, 6, 11, 54, 55, 56, 57, 58, 59, 60, 61, 62, 63, 64, 65, 66, 67, 68] (by decide +kernel) (by decide +kernel)
set_option maxRecDepth 20000 in
theorem gX1_pack_X1_isKind : GoodIn wsX1_pack (wsV RX1 81 RX1 yX1_isKind wsX1_isKind) := goodIn_app (goodIn_of _ (by decide +kernel)) ggX1_pack_X1_isKind
set_option maxRecDepth 20000 in
theorem ggX1_pack_X1_no : GoodIn wsX1_pack wsX1_no := goodIn_r _ [15, 1, 54, 55, 56, 57, 58, 59, 60, 61, 62, 63, 64, 65, 66, 67, 68] (by decide +kernel) (by decide +kernel)
set_option maxRecDepth 20000 in
theorem gX1_pack_X1_no : GoodIn wsX1_pack (wsV RX1 78 RX1 yX1_no wsX1_no) := goodIn_app (goodIn_of _ (by decide +kernel)) ggX1_pack_X1_no
set_option maxRecDepth 20000 in
theorem ggX1_pack_X1_fullest : GoodIn wsX1_pack wsX1_fullest := goodIn_r _ [19, 20, 21, 22, 23, 6, 24, 25, 26, 27, 28, 29, 30, 54, 55, 56, 57, 58, 59, 60, 61, 62, 63, 64, 65, 66, 67, 68] (by decide +kernel) (by decide +kernel)
set_option maxRecDepth 20000 in
theorem gX1_pack_X1_fullest : GoodIn wsX1_pack (wsV RX1 65 RX1 yX1_fullest wsX1_fullest) := goodIn_app (goodIn_of _ (by decide +kernel)) ggX1_pack_X1_fullest
set_option maxRecDepth 20000 in
theorem ggX1_pack_X1_leanest : GoodIn wsX1_pack wsX1_leanest := goodIn_r _ [34, 20, 21, 22, 23, 6, 24, 25, 26, 27, 28, 29, 30, 54, 55, 56, 57, 58, 59, 60, 61, 62, 63, 64, 65, 66, 67, 68] (by decide +kernel) (by decide +kernel)
set_option maxRecDepth 20000 in
theorem gX1_pack_X1_leanest : GoodIn wsX1_pack (wsV RX1 115 RX1 yX1_leanest wsX1_leanest) := goodIn_app (goodIn_of _ (by decide +kernel)) ggX1_pack_X1_leanest
set_option maxRecDepth 20000 in
theorem ggX1_pack_X1_lastThing : GoodIn wsX1_pack wsX1_lastThing := goodIn_r _ [38, 39, 54, 55, 56, 57, 58, 59, 60, 61, 62, 63, 64, 65, 66, 67, 68] (by decide +kernel) (by decide +kernel)
set_option maxRecDepth 20000 in
theorem gX1_pack_X1_lastThing : GoodIn wsX1_pack (wsV RX1 118 RX1 yX1_lastThing wsX1_lastThing) := goodIn_app (goodIn_of _ (by decide +kernel)) ggX1_pack_X1_lastThing
set_option maxRecDepth 20000 in
theorem ggX1_pack_X1_lift : GoodIn wsX1_pack wsX1_lift := goodIn_r _ [43, 39, 44, 45, 20, 54, 55, 56, 57, 58, 59, 60, 61, 62, 63, 64, 65, 66, 67, 68] (by decide +kernel) (by decide +kernel)
set_option maxRecDepth 20000 in
theorem gX1_pack_X1_lift : GoodIn wsX1_pack (wsV RX1 102 RX1 yX1_lift wsX1_lift) := goodIn_app (goodIn_of _ (by decide +kernel)) ggX1_pack_X1_lift
set_option maxRecDepth 20000 in
theorem ggX1_pack_X1_freeCell : GoodIn wsX1_pack wsX1_freeCell := goodIn_r _ [49, 39, 54, 55, 56, 57, 58, 59, 60, 61, 62, 63, 64, 65, 66, 67, 68] (by decide +kernel) (by decide +kernel)
set_option maxRecDepth 20000 in
theorem gX1_pack_X1_freeCell : GoodIn wsX1_pack (wsV RX1 92 RX1 yX1_freeCell wsX1_freeCell) := goodIn_app (goodIn_of _ (by decide +kernel)) ggX1_pack_X1_freeCell
set_option maxRecDepth 20000 in
theorem ggX1_pack_X1_lay : GoodIn wsX1_pack wsX1_lay := goodIn_r _ [53, 44, 45, 39, 20, 54, 55, 56, 57, 58, 59, 60, 61, 62, 63, 64, 65, 66, 67, 68] (by decide +kernel) (by decide +kernel)
set_option maxRecDepth 20000 in
theorem gX1_pack_X1_lay : GoodIn wsX1_pack (wsV RX1 95 RX1 yX1_lay wsX1_lay) := goodIn_app (goodIn_of _ (by decide +kernel)) ggX1_pack_X1_lay
theorem dX1_pack_0 : decode cX1_pack 0 = .ok (.aload_n 0, 1) := by decide +kernel
theorem dX1_pack_1 : decode cX1_pack 1 = .ok (.iconst 0, 1) := by decide +kernel
theorem dX1_pack_2 : decode cX1_pack 2 = .ok (.putfield 40, 3) := by decide +kernel
theorem dX1_pack_5 : decode cX1_pack 5 = .ok (.aload_n 0, 1) := by decide +kernel
theorem dX1_pack_6 : decode cX1_pack 6 = .ok (.iload_n 1, 1) := by decide +kernel
theorem dX1_pack_7 : decode cX1_pack 7 = .ok (.invokevirtual 81, 3) := by decide +kernel
theorem dX1_pack_10 : decode cX1_pack 10 = .ok (.ifCond .ne 9, 3) := by decide +kernel
theorem dX1_pack_13 : decode cX1_pack 13 = .ok (.aload_n 0, 1) := by decide +kernel
theorem dX1_pack_14 : decode cX1_pack 14 = .ok (.iconst 1, 1) := by decide +kernel
theorem dX1_pack_15 : decode cX1_pack 15 = .ok (.invokevirtual 78, 3) := by decide +kernel
theorem dX1_pack_18 : decode cX1_pack 18 = .ok (.ireturn, 1) := by decide +kernel
theorem dX1_pack_19 : decode cX1_pack 19 = .ok (.aload_n 0, 1) := by decide +kernel
theorem dX1_pack_20 : decode cX1_pack 20 = .ok (.getfield 112, 3) := by decide +kernel
theorem dX1_pack_23 : decode cX1_pack 23 = .ok (.istore_n 2, 1) := by decide +kernel
theorem dX1_pack_24 : decode cX1_pack 24 = .ok (.aload_n 0, 1) := by decide +kernel
theorem dX1_pack_25 : decode cX1_pack 25 = .ok (.iload_n 1, 1) := by decide +kernel
theorem dX1_pack_26 : decode cX1_pack 26 = .ok (.invokevirtual 65, 3) := by decide +kernel
theorem dX1_pack_29 : decode cX1_pack 29 = .ok (.aload_n 0, 1) := by decide +kernel
theorem dX1_pack_30 : decode cX1_pack 30 = .ok (.iload_n 1, 1) := by decide +kernel
theorem dX1_pack_31 : decode cX1_pack 31 = .ok (.invokevirtual 115, 3) := by decide +kernel
theorem dX1_pack_34 : decode cX1_pack 34 = .ok (.if_icmp .eq 51, 3) := by decide +kernel
theorem dX1_pack_37 : decode cX1_pack 37 = .ok (.aload_n 0, 1) := by decide +kernel
theorem dX1_pack_38 : decode cX1_pack 38 = .ok (.iload_n 1, 1) := by decide +kernel
theorem dX1_pack_39 : decode cX1_pack 39 = .ok (.invokevirtual 65, 3) := by decide +kernel
theorem dX1_pack_42 : decode cX1_pack 42 = .ok (.istore_n 3, 1) := by decide +kernel
theorem dX1_pack_43 : decode cX1_pack 43 = .ok (.aload_n 0, 1) := by decide +kernel
theorem dX1_pack_44 : decode cX1_pack 44 = .ok (.aload_n 0, 1) := by decide +kernel
theorem dX1_pack_45 : decode cX1_pack 45 = .ok (.iload_n 1, 1) := by decide +kernel
theorem dX1_pack_46 : decode cX1_pack 46 = .ok (.invokevirtual 115, 3) := by decide +kernel
theorem dX1_pack_49 : decode cX1_pack 49 = .ok (.invokevirtual 118, 3) := by decide +kernel
theorem dX1_pack_52 : decode cX1_pack 52 = .ok (.istore 4, 2) := by decide +kernel
theorem dX1_pack_54 : decode cX1_pack 54 = .ok (.aload_n 0, 1) := by decide +kernel
theorem dX1_pack_55 : decode cX1_pack 55 = .ok (.iload 4, 2) := by decide +kernel
theorem dX1_pack_57 : decode cX1_pack 57 = .ok (.invokevirtual 102, 3) := by decide +kernel
theorem dX1_pack_60 : decode cX1_pack 60 = .ok (.aload_n 0, 1) := by decide +kernel
theorem dX1_pack_61 : decode cX1_pack 61 = .ok (.iload 4, 2) := by decide +kernel
theorem dX1_pack_63 : decode cX1_pack 63 = .ok (.iload_n 3, 1) := by decide +kernel
theorem dX1_pack_64 : decode cX1_pack 64 = .ok (.aload_n 0, 1) := by decide +kernel
theorem dX1_pack_65 : decode cX1_pack 65 = .ok (.iload_n 3, 1) := by decide +kernel
theorem dX1_pack_66 : decode cX1_pack 66 = .ok (.invokevirtual 92, 3) := by decide +kernel
theorem dX1_pack_69 : decode cX1_pack 69 = .ok (.invokevirtual 95, 3) := by decide +kernel
theorem dX1_pack_72 : decode cX1_pack 72 = .ok (.aload_n 0, 1) := by decide +kernel
theorem dX1_pack_73 : decode cX1_pack 73 = .ok (.dup, 1) := by decide +kernel
theorem dX1_pack_74 : decode cX1_pack 74 = .ok (.getfield 112, 3) := by decide +kernel
theorem dX1_pack_77 : decode cX1_pack 77 = .ok (.iconst 1, 1) := by decide +kernel
theorem dX1_pack_78 : decode cX1_pack 78 = .ok (.iadd, 1) := by decide +kernel
theorem dX1_pack_79 : decode cX1_pack 79 = .ok (.putfield 112, 3) := by decide +kernel
theorem dX1_pack_82 : decode cX1_pack 82 = .ok (.goto (-58), 3) := by decide +kernel
theorem dX1_pack_85 : decode cX1_pack 85 = .ok (.aload_n 0, 1) := by decide +kernel
theorem dX1_pack_86 : decode cX1_pack 86 = .ok (.getfield 112, 3) := by decide +kernel
theorem dX1_pack_89 : decode cX1_pack 89 = .ok (.iload_n 2, 1) := by decide +kernel
theorem dX1_pack_90 : decode cX1_pack 90 = .ok (.isub, 1) := by decide +kernel
theorem dX1_pack_91 : decode cX1_pack 91 = .ok (.ireturn, 1) := by decide +kernel
theorem dX1_thingTold_0 : decode cX1_thingTold 0 = .ok (.iload_n 2, 1) := by decide +kernel
theorem dX1_thingTold_1 : decode cX1_thingTold 1 = .ok (.ifCond .ne 10, 3) := by decide +kernel
theorem dX1_thingTold_4 : decode cX1_thingTold 4 = .ok (.aload_n 0, 1) := by decide +kernel
theorem dX1_thingTold_5 : decode cX1_thingTold 5 = .ok (.getfield 31, 3) := by decide +kernel
theorem dX1_thingTold_8 : decode cX1_thingTold 8 = .ok (.iload_n 1, 1) := by decide +kernel
theorem dX1_thingTold_9 : decode cX1_thingTold 9 = .ok (.iaload, 1) := by decide +kernel
theorem dX1_thingTold_10 : decode cX1_thingTold 10 = .ok (.ireturn, 1) := by decide +kernel
theorem dX1_thingTold_11 : decode cX1_thingTold 11 = .ok (.aload_n 0, 1) := by decide +kernel
theorem dX1_thingTold_12 : decode cX1_thingTold 12 = .ok (.getfield 34, 3) := by decide +kernel
theorem dX1_thingTold_15 : decode cX1_thingTold 15 = .ok (.iload_n 1, 1) := by decide +kernel
theorem dX1_thingTold_16 : decode cX1_thingTold 16 = .ok (.iaload, 1) := by decide +kernel
theorem dX1_thingTold_17 : decode cX1_thingTold 17 = .ok (.iconst (-1), 1) := by decide +kernel
theorem dX1_thingTold_18 : decode cX1_thingTold 18 = .ok (.if_icmp .ne 5, 3) := by decide +kernel
theorem dX1_thingTold_21 : decode cX1_thingTold 21 = .ok (.iconst (-1), 1) := by decide +kernel
theorem dX1_thingTold_22 : decode cX1_thingTold 22 = .ok (.ireturn, 1) := by decide +kernel
theorem dX1_thingTold_23 : decode cX1_thingTold 23 = .ok (.aload_n 0, 1) := by decide +kernel
theorem dX1_thingTold_24 : decode cX1_thingTold 24 = .ok (.getfield 22, 3) := by decide +kernel
theorem dX1_thingTold_27 : decode cX1_thingTold 27 = .ok (.aload_n 0, 1) := by decide +kernel
theorem dX1_thingTold_28 : decode cX1_thingTold 28 = .ok (.getfield 34, 3) := by decide +kernel
theorem dX1_thingTold_31 : decode cX1_thingTold 31 = .ok (.iload_n 1, 1) := by decide +kernel
theorem dX1_thingTold_32 : decode cX1_thingTold 32 = .ok (.iaload, 1) := by decide +kernel
theorem dX1_thingTold_33 : decode cX1_thingTold 33 = .ok (.iaload, 1) := by decide +kernel
theorem dX1_thingTold_34 : decode cX1_thingTold 34 = .ok (.aload_n 0, 1) := by decide +kernel
theorem dX1_thingTold_35 : decode cX1_thingTold 35 = .ok (.getfield 37, 3) := by decide +kernel
theorem dX1_thingTold_38 : decode cX1_thingTold 38 = .ok (.iload_n 1, 1) := by decide +kernel
theorem dX1_thingTold_39 : decode cX1_thingTold 39 = .ok (.iaload, 1) := by decide +kernel
theorem dX1_thingTold_40 : decode cX1_thingTold 40 = .ok (.aload_n 0, 1) := by decide +kernel
theorem dX1_thingTold_41 : decode cX1_thingTold 41 = .ok (.getfield 9, 3) := by decide +kernel
theorem dX1_thingTold_44 : decode cX1_thingTold 44 = .ok (.aload_n 0, 1) := by decide +kernel
theorem dX1_thingTold_45 : decode cX1_thingTold 45 = .ok (.getfield 31, 3) := by decide +kernel
theorem dX1_thingTold_48 : decode cX1_thingTold 48 = .ok (.iload_n 1, 1) := by decide +kernel
theorem dX1_thingTold_49 : decode cX1_thingTold 49 = .ok (.iaload, 1) := by decide +kernel
theorem dX1_thingTold_50 : decode cX1_thingTold 50 = .ok (.iaload, 1) := by decide +kernel
theorem dX1_thingTold_51 : decode cX1_thingTold 51 = .ok (.imul, 1) := by decide +kernel
theorem dX1_thingTold_52 : decode cX1_thingTold 52 = .ok (.iadd, 1) := by decide +kernel
theorem dX1_thingTold_53 : decode cX1_thingTold 53 = .ok (.istore_n 3, 1) := by decide +kernel
theorem dX1_thingTold_54 : decode cX1_thingTold 54 = .ok (.iload_n 2, 1) := by decide +kernel
theorem dX1_thingTold_55 : decode cX1_thingTold 55 = .ok (.iconst 1, 1) := by decide +kernel
theorem dX1_thingTold_56 : decode cX1_thingTold 56 = .ok (.if_icmp .ne 12, 3) := by decide +kernel
theorem dX1_thingTold_59 : decode cX1_thingTold 59 = .ok (.aload_n 0, 1) := by decide +kernel
theorem dX1_thingTold_60 : decode cX1_thingTold 60 = .ok (.getfield 34, 3) := by decide +kernel
theorem dX1_thingTold_63 : decode cX1_thingTold 63 = .ok (.iload_n 1, 1) := by decide +kernel
theorem dX1_thingTold_64 : decode cX1_thingTold 64 = .ok (.iaload, 1) := by decide +kernel
theorem dX1_thingTold_65 : decode cX1_thingTold 65 = .ok (.goto 37, 3) := by decide +kernel
theorem dX1_thingTold_68 : decode cX1_thingTold 68 = .ok (.iload_n 2, 1) := by decide +kernel
theorem dX1_thingTold_69 : decode cX1_thingTold 69 = .ok (.iconst 2, 1) := by decide +kernel
theorem dX1_thingTold_70 : decode cX1_thingTold 70 = .ok (.if_icmp .ne 12, 3) := by decide +kernel
theorem dX1_thingTold_73 : decode cX1_thingTold 73 = .ok (.aload_n 0, 1) := by decide +kernel
theorem dX1_thingTold_74 : decode cX1_thingTold 74 = .ok (.getfield 37, 3) := by decide +kernel
theorem dX1_thingTold_77 : decode cX1_thingTold 77 = .ok (.iload_n 1, 1) := by decide +kernel
theorem dX1_thingTold_78 : decode cX1_thingTold 78 = .ok (.iaload, 1) := by decide +kernel
theorem dX1_thingTold_79 : decode cX1_thingTold 79 = .ok (.goto 23, 3) := by decide +kernel
theorem dX1_thingTold_82 : decode cX1_thingTold 82 = .ok (.iload_n 2, 1) := by decide +kernel
theorem dX1_thingTold_83 : decode cX1_thingTold 83 = .ok (.iconst 3, 1) := by decide +kernel
theorem dX1_thingTold_84 : decode cX1_thingTold 84 = .ok (.if_icmp .ne 7, 3) := by decide +kernel
theorem dX1_thingTold_87 : decode cX1_thingTold 87 = .ok (.iload_n 3, 1) := by decide +kernel
theorem dX1_thingTold_88 : decode cX1_thingTold 88 = .ok (.goto 14, 3) := by decide +kernel
theorem dX1_thingTold_91 : decode cX1_thingTold 91 = .ok (.bipush 64, 2) := by decide +kernel
theorem dX1_thingTold_93 : decode cX1_thingTold 93 = .ok (.aload_n 0, 1) := by decide +kernel
theorem dX1_thingTold_94 : decode cX1_thingTold 94 = .ok (.getfield 34, 3) := by decide +kernel
theorem dX1_thingTold_97 : decode cX1_thingTold 97 = .ok (.iload_n 1, 1) := by decide +kernel
theorem dX1_thingTold_98 : decode cX1_thingTold 98 = .ok (.iaload, 1) := by decide +kernel
theorem dX1_thingTold_99 : decode cX1_thingTold 99 = .ok (.imul, 1) := by decide +kernel
theorem dX1_thingTold_100 : decode cX1_thingTold 100 = .ok (.iload_n 3, 1) := by decide +kernel
theorem dX1_thingTold_101 : decode cX1_thingTold 101 = .ok (.iadd, 1) := by decide +kernel
theorem dX1_thingTold_102 : decode cX1_thingTold 102 = .ok (.ireturn, 1) := by decide +kernel
set_option maxRecDepth 20000 in
theorem ggX1_told_X1_isThing : GoodIn wsX1_told wsX1_isThing := goodIn_r _ [6, 7, 8, 9, 5, 10, 24, 25, 26, 27, 28, 29, 30, 31, 32, 33, 34, 35, 36, 37, 38] (by decide +kernel) (by decide +kernel)
set_option maxRecDepth 20000 in
theorem gX1_told_X1_isThing : GoodIn wsX1_told (wsV RX1 99 RX1 yX1_isThing wsX1_isThing) := goodIn_app (goodIn_of _ (by decide +kernel)) ggX1_told_X1_isThing
set_option maxRecDepth 20000 in
theorem ggX1_told_X1_isIn : GoodIn wsX1_told wsX1_isIn := goodIn_r _ [10] (by decide +kernel) (by decide +kernel)
set_option maxRecDepth 20000 in
theorem gX1_told_X1_isIn : GoodIn wsX1_told (va_wsS RX1 47 yX1_isIn wsX1_isIn) := goodIn_app (goodIn_of _ (by decide +kernel)) ggX1_told_X1_isIn
set_option maxRecDepth 20000 in
theorem ggX1_told_X1_thingTold : GoodIn wsX1_told wsX1_thingTold := goodIn_r _ [14, 15, 16, 17, 18, 19, 24, 25, 26, 27, 28, 29, 30, 31, 32, 33, 34, 35, 36, 37, 38] (by decide +kernel) (by decide +kernel)
set_option maxRecDepth 20000 in
theorem gX1_told_X1_thingTold : GoodIn wsX1_told (wsV RX1 121 RX1 yX1_thingTold wsX1_thingTold) := goodIn_app (goodIn_of _ (by decide +kernel)) ggX1_told_X1_thingTold
set_option maxRecDepth 20000 in
theorem ggX1_told_X1_no : GoodIn wsX1_told wsX1_no := goodIn_r _ [23, 1, 24, 25, 26, 27, 28, 29, 30, 31, 32, 33, 34, 35, 36, 37, 38] (by decide +kernel) (by decide +kernel)
set_option maxRecDepth 20000 in
theorem gX1_told_X1_no : GoodIn wsX1_told (wsV RX1 78 RX1 yX1_no wsX1_no) := goodIn_app (goodIn_of _ (by decide +kernel)) ggX1_told_X1_no
theorem dX1_told_0 : decode cX1_told 0 = .ok (.aload_n 0, 1) := by decide +kernel
theorem dX1_told_1 : decode cX1_told 1 = .ok (.iconst 0, 1) := by decide +kernel
theorem dX1_told_2 : decode cX1_told 2 = .ok (.putfield 40, 3) := by decide +kernel
theorem dX1_told_5 : decode cX1_told 5 = .ok (.aload_n 0, 1) := by decide +kernel
theorem dX1_told_6 : decode cX1_told 6 = .ok (.iload_n 1, 1) := by decide +kernel
theorem dX1_told_7 : decode cX1_told 7 = .ok (.invokevirtual 99, 3) := by decide +kernel
theorem dX1_told_10 : decode cX1_told 10 = .ok (.ifCond .eq 21, 3) := by decide +kernel
theorem dX1_told_13 : decode cX1_told 13 = .ok (.iload_n 2, 1) := by decide +kernel
theorem dX1_told_14 : decode cX1_told 14 = .ok (.iconst 0, 1) := by decide +kernel
theorem dX1_told_15 : decode cX1_told 15 = .ok (.iconst 4, 1) := by decide +kernel
theorem dX1_told_16 : decode cX1_told 16 = .ok (.invokestatic 47, 3) := by decide +kernel
theorem dX1_told_19 : decode cX1_told 19 = .ok (.ifCond .eq 12, 3) := by decide +kernel
theorem dX1_told_22 : decode cX1_told 22 = .ok (.aload_n 0, 1) := by decide +kernel
theorem dX1_told_23 : decode cX1_told 23 = .ok (.iload_n 1, 1) := by decide +kernel
theorem dX1_told_24 : decode cX1_told 24 = .ok (.iload_n 2, 1) := by decide +kernel
theorem dX1_told_25 : decode cX1_told 25 = .ok (.invokevirtual 121, 3) := by decide +kernel
theorem dX1_told_28 : decode cX1_told 28 = .ok (.goto 8, 3) := by decide +kernel
theorem dX1_told_31 : decode cX1_told 31 = .ok (.aload_n 0, 1) := by decide +kernel
theorem dX1_told_32 : decode cX1_told 32 = .ok (.iconst 1, 1) := by decide +kernel
theorem dX1_told_33 : decode cX1_told 33 = .ok (.invokevirtual 78, 3) := by decide +kernel
theorem dX1_told_36 : decode cX1_told 36 = .ok (.ireturn, 1) := by decide +kernel
theorem dX1_wasted_0 : decode cX1_wasted 0 = .ok (.aload_n 0, 1) := by decide +kernel
theorem dX1_wasted_1 : decode cX1_wasted 1 = .ok (.getfield 19, 3) := by decide +kernel
theorem dX1_wasted_4 : decode cX1_wasted 4 = .ok (.iload_n 1, 1) := by decide +kernel
theorem dX1_wasted_5 : decode cX1_wasted 5 = .ok (.iaload, 1) := by decide +kernel
theorem dX1_wasted_6 : decode cX1_wasted 6 = .ok (.iconst (-1), 1) := by decide +kernel
theorem dX1_wasted_7 : decode cX1_wasted 7 = .ok (.if_icmp .ne 7, 3) := by decide +kernel
theorem dX1_wasted_10 : decode cX1_wasted 10 = .ok (.iconst 0, 1) := by decide +kernel
theorem dX1_wasted_11 : decode cX1_wasted 11 = .ok (.goto 24, 3) := by decide +kernel
theorem dX1_wasted_14 : decode cX1_wasted 14 = .ok (.bipush 64, 2) := by decide +kernel
theorem dX1_wasted_16 : decode cX1_wasted 16 = .ok (.aload_n 0, 1) := by decide +kernel
theorem dX1_wasted_17 : decode cX1_wasted 17 = .ok (.getfield 9, 3) := by decide +kernel
theorem dX1_wasted_20 : decode cX1_wasted 20 = .ok (.aload_n 0, 1) := by decide +kernel
theorem dX1_wasted_21 : decode cX1_wasted 21 = .ok (.getfield 19, 3) := by decide +kernel
theorem dX1_wasted_24 : decode cX1_wasted 24 = .ok (.iload_n 1, 1) := by decide +kernel
theorem dX1_wasted_25 : decode cX1_wasted 25 = .ok (.iaload, 1) := by decide +kernel
theorem dX1_wasted_26 : decode cX1_wasted 26 = .ok (.iaload, 1) := by decide +kernel
theorem dX1_wasted_27 : decode cX1_wasted 27 = .ok (.aload_n 0, 1) := by decide +kernel
theorem dX1_wasted_28 : decode cX1_wasted 28 = .ok (.getfield 25, 3) := by decide +kernel
theorem dX1_wasted_31 : decode cX1_wasted 31 = .ok (.iload_n 1, 1) := by decide +kernel
theorem dX1_wasted_32 : decode cX1_wasted 32 = .ok (.iaload, 1) := by decide +kernel
theorem dX1_wasted_33 : decode cX1_wasted 33 = .ok (.imul, 1) := by decide +kernel
theorem dX1_wasted_34 : decode cX1_wasted 34 = .ok (.isub, 1) := by decide +kernel
theorem dX1_wasted_35 : decode cX1_wasted 35 = .ok (.ireturn, 1) := by decide +kernel
set_option maxRecDepth 20000 in
theorem ggX1_trayTold_X1_cells : GoodIn wsX1_trayTold wsX1_cells := goodIn_r _ [8, 9, 14, 15, 16, 17, 18, 19, 20, 21, 22, 23, 24, 25, 26, 27, 28] (by decide +kernel) (by decide +kernel)
set_option maxRecDepth 20000 in
theorem gX1_trayTold_X1_cells : GoodIn wsX1_trayTold (wsV RX1 54 RX1 yX1_cells wsX1_cells) := goodIn_app (goodIn_of _ (by decide +kernel)) ggX1_trayTold_X1_cells
set_option maxRecDepth 20000 in
theorem ggX1_trayTold_X1_wasted : GoodIn wsX1_trayTold wsX1_wasted := goodIn_r _ [13, 1, 9, 3, 14, 15, 16, 17, 18, 19, 20, 21, 22, 23, 24, 25, 26, 27, 28] (by decide +kernel) (by decide +kernel)
set_option maxRecDepth 20000 in
theorem gX1_trayTold_X1_wasted : GoodIn wsX1_trayTold (wsV RX1 125 RX1 yX1_wasted wsX1_wasted) := goodIn_app (goodIn_of _ (by decide +kernel)) ggX1_trayTold_X1_wasted
theorem dX1_trayTold_0 : decode cX1_trayTold 0 = .ok (.aload_n 0, 1) := by decide +kernel
theorem dX1_trayTold_1 : decode cX1_trayTold 1 = .ok (.getfield 19, 3) := by decide +kernel
theorem dX1_trayTold_4 : decode cX1_trayTold 4 = .ok (.iload_n 1, 1) := by decide +kernel
theorem dX1_trayTold_5 : decode cX1_trayTold 5 = .ok (.iaload, 1) := by decide +kernel
theorem dX1_trayTold_6 : decode cX1_trayTold 6 = .ok (.iconst (-1), 1) := by decide +kernel
theorem dX1_trayTold_7 : decode cX1_trayTold 7 = .ok (.if_icmp .ne 5, 3) := by decide +kernel
theorem dX1_trayTold_10 : decode cX1_trayTold 10 = .ok (.iconst (-1), 1) := by decide +kernel
theorem dX1_trayTold_11 : decode cX1_trayTold 11 = .ok (.ireturn, 1) := by decide +kernel
theorem dX1_trayTold_12 : decode cX1_trayTold 12 = .ok (.iload_n 2, 1) := by decide +kernel
theorem dX1_trayTold_13 : decode cX1_trayTold 13 = .ok (.ifCond .ne 12, 3) := by decide +kernel
theorem dX1_trayTold_16 : decode cX1_trayTold 16 = .ok (.aload_n 0, 1) := by decide +kernel
theorem dX1_trayTold_17 : decode cX1_trayTold 17 = .ok (.getfield 19, 3) := by decide +kernel
theorem dX1_trayTold_20 : decode cX1_trayTold 20 = .ok (.iload_n 1, 1) := by decide +kernel
theorem dX1_trayTold_21 : decode cX1_trayTold 21 = .ok (.iaload, 1) := by decide +kernel
theorem dX1_trayTold_22 : decode cX1_trayTold 22 = .ok (.goto 54, 3) := by decide +kernel
theorem dX1_trayTold_25 : decode cX1_trayTold 25 = .ok (.iload_n 2, 1) := by decide +kernel
theorem dX1_trayTold_26 : decode cX1_trayTold 26 = .ok (.iconst 1, 1) := by decide +kernel
theorem dX1_trayTold_27 : decode cX1_trayTold 27 = .ok (.if_icmp .ne 12, 3) := by decide +kernel
theorem dX1_trayTold_30 : decode cX1_trayTold 30 = .ok (.aload_n 0, 1) := by decide +kernel
theorem dX1_trayTold_31 : decode cX1_trayTold 31 = .ok (.getfield 22, 3) := by decide +kernel
theorem dX1_trayTold_34 : decode cX1_trayTold 34 = .ok (.iload_n 1, 1) := by decide +kernel
theorem dX1_trayTold_35 : decode cX1_trayTold 35 = .ok (.iaload, 1) := by decide +kernel
theorem dX1_trayTold_36 : decode cX1_trayTold 36 = .ok (.goto 40, 3) := by decide +kernel
theorem dX1_trayTold_39 : decode cX1_trayTold 39 = .ok (.iload_n 2, 1) := by decide +kernel
theorem dX1_trayTold_40 : decode cX1_trayTold 40 = .ok (.iconst 2, 1) := by decide +kernel
theorem dX1_trayTold_41 : decode cX1_trayTold 41 = .ok (.if_icmp .ne 16, 3) := by decide +kernel
theorem dX1_trayTold_44 : decode cX1_trayTold 44 = .ok (.aload_n 0, 1) := by decide +kernel
theorem dX1_trayTold_45 : decode cX1_trayTold 45 = .ok (.aload_n 0, 1) := by decide +kernel
theorem dX1_trayTold_46 : decode cX1_trayTold 46 = .ok (.getfield 19, 3) := by decide +kernel
theorem dX1_trayTold_49 : decode cX1_trayTold 49 = .ok (.iload_n 1, 1) := by decide +kernel
theorem dX1_trayTold_50 : decode cX1_trayTold 50 = .ok (.iaload, 1) := by decide +kernel
theorem dX1_trayTold_51 : decode cX1_trayTold 51 = .ok (.invokevirtual 54, 3) := by decide +kernel
theorem dX1_trayTold_54 : decode cX1_trayTold 54 = .ok (.goto 22, 3) := by decide +kernel
theorem dX1_trayTold_57 : decode cX1_trayTold 57 = .ok (.iload_n 2, 1) := by decide +kernel
theorem dX1_trayTold_58 : decode cX1_trayTold 58 = .ok (.iconst 3, 1) := by decide +kernel
theorem dX1_trayTold_59 : decode cX1_trayTold 59 = .ok (.if_icmp .ne 12, 3) := by decide +kernel
theorem dX1_trayTold_62 : decode cX1_trayTold 62 = .ok (.aload_n 0, 1) := by decide +kernel
theorem dX1_trayTold_63 : decode cX1_trayTold 63 = .ok (.getfield 25, 3) := by decide +kernel
theorem dX1_trayTold_66 : decode cX1_trayTold 66 = .ok (.iload_n 1, 1) := by decide +kernel
theorem dX1_trayTold_67 : decode cX1_trayTold 67 = .ok (.iaload, 1) := by decide +kernel
theorem dX1_trayTold_68 : decode cX1_trayTold 68 = .ok (.goto 8, 3) := by decide +kernel
theorem dX1_trayTold_71 : decode cX1_trayTold 71 = .ok (.aload_n 0, 1) := by decide +kernel
theorem dX1_trayTold_72 : decode cX1_trayTold 72 = .ok (.iload_n 1, 1) := by decide +kernel
theorem dX1_trayTold_73 : decode cX1_trayTold 73 = .ok (.invokevirtual 125, 3) := by decide +kernel
theorem dX1_trayTold_76 : decode cX1_trayTold 76 = .ok (.ireturn, 1) := by decide +kernel
set_option maxRecDepth 20000 in
theorem ggX1_tray_X1_isIn : GoodIn wsX1_tray wsX1_isIn := goodIn_r _ [5] (by decide +kernel) (by decide +kernel)
set_option maxRecDepth 20000 in
theorem gX1_tray_X1_isIn : GoodIn wsX1_tray (va_wsS RX1 47 yX1_isIn wsX1_isIn) := goodIn_app (goodIn_of _ (by decide +kernel)) ggX1_tray_X1_isIn
set_option maxRecDepth 20000 in
theorem ggX1_tray_X1_trayTold : GoodIn wsX1_tray wsX1_trayTold := goodIn_r _ [9, 10, 11, 12, 13, 14, 15, 4, 16, 17, 18, 19, 20, 21, 26, 27, 28, 29, 30, 31, 32, 33, 34, 35, 36, 37, 38, 39, 40] (by decide +kernel) (by decide +kernel)
set_option maxRecDepth 20000 in
theorem gX1_tray_X1_trayTold : GoodIn wsX1_tray (wsV RX1 128 RX1 yX1_trayTold wsX1_trayTold) := goodIn_app (goodIn_of _ (by decide +kernel)) ggX1_tray_X1_trayTold
set_option maxRecDepth 20000 in
theorem ggX1_tray_X1_no : GoodIn wsX1_tray wsX1_no := goodIn_r _ [25, 1, 26, 27, 28, 29, 30, 31, 32, 33, 34, 35, 36, 37, 38, 39, 40] (by decide +kernel) (by decide +kernel)
set_option maxRecDepth 20000 in
theorem gX1_tray_X1_no : GoodIn wsX1_tray (wsV RX1 78 RX1 yX1_no wsX1_no) := goodIn_app (goodIn_of _ (by decide +kernel)) ggX1_tray_X1_no
theorem dX1_tray_0 : decode cX1_tray 0 = .ok (.aload_n 0, 1) := by decide +kernel
theorem dX1_tray_1 : decode cX1_tray 1 = .ok (.iconst 0, 1) := by decide +kernel
theorem dX1_tray_2 : decode cX1_tray 2 = .ok (.putfield 40, 3) := by decide +kernel
theorem dX1_tray_5 : decode cX1_tray 5 = .ok (.iload_n 1, 1) := by decide +kernel
theorem dX1_tray_6 : decode cX1_tray 6 = .ok (.iconst 0, 1) := by decide +kernel
theorem dX1_tray_7 : decode cX1_tray 7 = .ok (.bipush 19, 2) := by decide +kernel
theorem dX1_tray_9 : decode cX1_tray 9 = .ok (.invokestatic 47, 3) := by decide +kernel
theorem dX1_tray_12 : decode cX1_tray 12 = .ok (.ifCond .eq 21, 3) := by decide +kernel
theorem dX1_tray_15 : decode cX1_tray 15 = .ok (.iload_n 2, 1) := by decide +kernel
theorem dX1_tray_16 : decode cX1_tray 16 = .ok (.iconst 0, 1) := by decide +kernel
theorem dX1_tray_17 : decode cX1_tray 17 = .ok (.iconst 4, 1) := by decide +kernel
theorem dX1_tray_18 : decode cX1_tray 18 = .ok (.invokestatic 47, 3) := by decide +kernel
theorem dX1_tray_21 : decode cX1_tray 21 = .ok (.ifCond .eq 12, 3) := by decide +kernel
theorem dX1_tray_24 : decode cX1_tray 24 = .ok (.aload_n 0, 1) := by decide +kernel
theorem dX1_tray_25 : decode cX1_tray 25 = .ok (.iload_n 1, 1) := by decide +kernel
theorem dX1_tray_26 : decode cX1_tray 26 = .ok (.iload_n 2, 1) := by decide +kernel
theorem dX1_tray_27 : decode cX1_tray 27 = .ok (.invokevirtual 128, 3) := by decide +kernel
theorem dX1_tray_30 : decode cX1_tray 30 = .ok (.goto 8, 3) := by decide +kernel
theorem dX1_tray_33 : decode cX1_tray 33 = .ok (.aload_n 0, 1) := by decide +kernel
theorem dX1_tray_34 : decode cX1_tray 34 = .ok (.iconst 1, 1) := by decide +kernel
theorem dX1_tray_35 : decode cX1_tray 35 = .ok (.invokevirtual 78, 3) := by decide +kernel
theorem dX1_tray_38 : decode cX1_tray 38 = .ok (.ireturn, 1) := by decide +kernel
set_option maxRecDepth 20000 in
theorem ggX1_cell_X1_isIn : GoodIn wsX1_cell wsX1_isIn := goodIn_r _ [7] (by decide +kernel) (by decide +kernel)
set_option maxRecDepth 20000 in
theorem gX1_cell_X1_isIn : GoodIn wsX1_cell (va_wsS RX1 47 yX1_isIn wsX1_isIn) := goodIn_app (goodIn_of _ (by decide +kernel)) ggX1_cell_X1_isIn
set_option maxRecDepth 20000 in
theorem ggX1_cell_X1_cells : GoodIn wsX1_cell wsX1_cells := goodIn_r _ [11, 12, 17, 18, 19, 20, 21, 22, 23, 24, 25, 26, 27, 28, 29, 30, 31] (by decide +kernel) (by decide +kernel)
set_option maxRecDepth 20000 in
theorem gX1_cell_X1_cells : GoodIn wsX1_cell (wsV RX1 54 RX1 yX1_cells wsX1_cells) := goodIn_app (goodIn_of _ (by decide +kernel)) ggX1_cell_X1_cells
set_option maxRecDepth 20000 in
theorem ggX1_cell_X1_no : GoodIn wsX1_cell wsX1_no := goodIn_r _ [16, 1, 17, 18, 19, 20, 21, 22, 23, 24, 25, 26, 27, 28, 29, 30, 31] (by decide +kernel) (by decide +kernel)
set_option maxRecDepth 20000 in
theorem gX1_cell_X1_no : GoodIn wsX1_cell (wsV RX1 78 RX1 yX1_no wsX1_no) := goodIn_app (goodIn_of _ (by decide +kernel)) ggX1_cell_X1_no
theorem dX1_cell_0 : decode cX1_cell 0 = .ok (.aload_n 0, 1) := by decide +kernel
theorem dX1_cell_1 : decode cX1_cell 1 = .ok (.iconst 0, 1) := by decide +kernel
theorem dX1_cell_2 : decode cX1_cell 2 = .ok (.putfield 40, 3) := by decide +kernel
theorem dX1_cell_5 : decode cX1_cell 5 = .ok (.iload_n 1, 1) := by decide +kernel
theorem dX1_cell_6 : decode cX1_cell 6 = .ok (.iconst 0, 1) := by decide +kernel
theorem dX1_cell_7 : decode cX1_cell 7 = .ok (.bipush 19, 2) := by decide +kernel
theorem dX1_cell_9 : decode cX1_cell 9 = .ok (.invokestatic 47, 3) := by decide +kernel
theorem dX1_cell_12 : decode cX1_cell 12 = .ok (.ifCond .eq 33, 3) := by decide +kernel
theorem dX1_cell_15 : decode cX1_cell 15 = .ok (.aload_n 0, 1) := by decide +kernel
theorem dX1_cell_16 : decode cX1_cell 16 = .ok (.getfield 19, 3) := by decide +kernel
theorem dX1_cell_19 : decode cX1_cell 19 = .ok (.iload_n 1, 1) := by decide +kernel
theorem dX1_cell_20 : decode cX1_cell 20 = .ok (.iaload, 1) := by decide +kernel
theorem dX1_cell_21 : decode cX1_cell 21 = .ok (.iconst (-1), 1) := by decide +kernel
theorem dX1_cell_22 : decode cX1_cell 22 = .ok (.if_icmp .eq 23, 3) := by decide +kernel
theorem dX1_cell_25 : decode cX1_cell 25 = .ok (.iload_n 2, 1) := by decide +kernel
theorem dX1_cell_26 : decode cX1_cell 26 = .ok (.iconst 0, 1) := by decide +kernel
theorem dX1_cell_27 : decode cX1_cell 27 = .ok (.aload_n 0, 1) := by decide +kernel
theorem dX1_cell_28 : decode cX1_cell 28 = .ok (.aload_n 0, 1) := by decide +kernel
theorem dX1_cell_29 : decode cX1_cell 29 = .ok (.getfield 19, 3) := by decide +kernel
theorem dX1_cell_32 : decode cX1_cell 32 = .ok (.iload_n 1, 1) := by decide +kernel
theorem dX1_cell_33 : decode cX1_cell 33 = .ok (.iaload, 1) := by decide +kernel
theorem dX1_cell_34 : decode cX1_cell 34 = .ok (.invokevirtual 54, 3) := by decide +kernel
theorem dX1_cell_37 : decode cX1_cell 37 = .ok (.iconst 1, 1) := by decide +kernel
theorem dX1_cell_38 : decode cX1_cell 38 = .ok (.isub, 1) := by decide +kernel
theorem dX1_cell_39 : decode cX1_cell 39 = .ok (.invokestatic 47, 3) := by decide +kernel
theorem dX1_cell_42 : decode cX1_cell 42 = .ok (.ifCond .ne 9, 3) := by decide +kernel
theorem dX1_cell_45 : decode cX1_cell 45 = .ok (.aload_n 0, 1) := by decide +kernel
theorem dX1_cell_46 : decode cX1_cell 46 = .ok (.iconst 1, 1) := by decide +kernel
theorem dX1_cell_47 : decode cX1_cell 47 = .ok (.invokevirtual 78, 3) := by decide +kernel
theorem dX1_cell_50 : decode cX1_cell 50 = .ok (.ireturn, 1) := by decide +kernel
theorem dX1_cell_51 : decode cX1_cell 51 = .ok (.aload_n 0, 1) := by decide +kernel
theorem dX1_cell_52 : decode cX1_cell 52 = .ok (.getfield 28, 3) := by decide +kernel
theorem dX1_cell_55 : decode cX1_cell 55 = .ok (.bipush 64, 2) := by decide +kernel
theorem dX1_cell_57 : decode cX1_cell 57 = .ok (.iload_n 1, 1) := by decide +kernel
theorem dX1_cell_58 : decode cX1_cell 58 = .ok (.imul, 1) := by decide +kernel
theorem dX1_cell_59 : decode cX1_cell 59 = .ok (.iload_n 2, 1) := by decide +kernel
theorem dX1_cell_60 : decode cX1_cell 60 = .ok (.iadd, 1) := by decide +kernel
theorem dX1_cell_61 : decode cX1_cell 61 = .ok (.iaload, 1) := by decide +kernel
theorem dX1_cell_62 : decode cX1_cell 62 = .ok (.ireturn, 1) := by decide +kernel
theorem dX1_trays_0 : decode cX1_trays 0 = .ok (.iconst 0, 1) := by decide +kernel
theorem dX1_trays_1 : decode cX1_trays 1 = .ok (.istore_n 2, 1) := by decide +kernel
theorem dX1_trays_2 : decode cX1_trays 2 = .ok (.iconst 0, 1) := by decide +kernel
theorem dX1_trays_3 : decode cX1_trays 3 = .ok (.istore_n 3, 1) := by decide +kernel
theorem dX1_trays_4 : decode cX1_trays 4 = .ok (.iload_n 3, 1) := by decide +kernel
theorem dX1_trays_5 : decode cX1_trays 5 = .ok (.bipush 20, 2) := by decide +kernel
