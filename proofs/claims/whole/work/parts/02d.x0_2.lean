theorem dX0_firstBare_13 : decode cX0_firstBare 13 = .ok (.iaload, 1) := by decide +kernel
theorem dX0_firstBare_14 : decode cX0_firstBare 14 = .ok (.iconst (-1), 1) := by decide +kernel
theorem dX0_firstBare_15 : decode cX0_firstBare 15 = .ok (.if_icmp .ne 5, 3) := by decide +kernel
theorem dX0_firstBare_18 : decode cX0_firstBare 18 = .ok (.iload_n 1, 1) := by decide +kernel
theorem dX0_firstBare_19 : decode cX0_firstBare 19 = .ok (.ireturn, 1) := by decide +kernel
theorem dX0_firstBare_20 : decode cX0_firstBare 20 = .ok (.iinc 1 1, 3) := by decide +kernel
theorem dX0_firstBare_23 : decode cX0_firstBare 23 = .ok (.goto (-21), 3) := by decide +kernel
theorem dX0_firstBare_26 : decode cX0_firstBare 26 = .ok (.iconst (-1), 1) := by decide +kernel
theorem dX0_firstBare_27 : decode cX0_firstBare 27 = .ok (.ireturn, 1) := by decide +kernel
theorem dX0_addTray_0 : decode cX0_addTray 0 = .ok (.aload_n 0, 1) := by decide +kernel
theorem dX0_addTray_1 : decode cX0_addTray 1 = .ok (.getfield 25, 3) := by decide +kernel
theorem dX0_addTray_4 : decode cX0_addTray 4 = .ok (.iload_n 1, 1) := by decide +kernel
theorem dX0_addTray_5 : decode cX0_addTray 5 = .ok (.iload_n 2, 1) := by decide +kernel
theorem dX0_addTray_6 : decode cX0_addTray 6 = .ok (.iastore, 1) := by decide +kernel
theorem dX0_addTray_7 : decode cX0_addTray 7 = .ok (.aload_n 0, 1) := by decide +kernel
theorem dX0_addTray_8 : decode cX0_addTray 8 = .ok (.getfield 28, 3) := by decide +kernel
theorem dX0_addTray_11 : decode cX0_addTray 11 = .ok (.iload_n 1, 1) := by decide +kernel
theorem dX0_addTray_12 : decode cX0_addTray 12 = .ok (.aload_n 0, 1) := by decide +kernel
theorem dX0_addTray_13 : decode cX0_addTray 13 = .ok (.getfield 22, 3) := by decide +kernel
theorem dX0_addTray_16 : decode cX0_addTray 16 = .ok (.iload_n 2, 1) := by decide +kernel
theorem dX0_addTray_17 : decode cX0_addTray 17 = .ok (.iaload, 1) := by decide +kernel
theorem dX0_addTray_18 : decode cX0_addTray 18 = .ok (.iastore, 1) := by decide +kernel
theorem dX0_addTray_19 : decode cX0_addTray 19 = .ok (.aload_n 0, 1) := by decide +kernel
theorem dX0_addTray_20 : decode cX0_addTray 20 = .ok (.getfield 22, 3) := by decide +kernel
theorem dX0_addTray_23 : decode cX0_addTray 23 = .ok (.iload_n 2, 1) := by decide +kernel
theorem dX0_addTray_24 : decode cX0_addTray 24 = .ok (.iaload, 1) := by decide +kernel
theorem dX0_addTray_25 : decode cX0_addTray 25 = .ok (.aload_n 0, 1) := by decide +kernel
theorem dX0_addTray_26 : decode cX0_addTray 26 = .ok (.getfield 13, 3) := by decide +kernel
theorem dX0_addTray_29 : decode cX0_addTray 29 = .ok (.iload_n 2, 1) := by decide +kernel
theorem dX0_addTray_30 : decode cX0_addTray 30 = .ok (.iaload, 1) := by decide +kernel
theorem dX0_addTray_31 : decode cX0_addTray 31 = .ok (.iadd, 1) := by decide +kernel
theorem dX0_addTray_32 : decode cX0_addTray 32 = .ok (.istore_n 3, 1) := by decide +kernel
theorem dX0_addTray_33 : decode cX0_addTray 33 = .ok (.aload_n 0, 1) := by decide +kernel
theorem dX0_addTray_34 : decode cX0_addTray 34 = .ok (.getfield 22, 3) := by decide +kernel
theorem dX0_addTray_37 : decode cX0_addTray 37 = .ok (.iload_n 2, 1) := by decide +kernel
theorem dX0_addTray_38 : decode cX0_addTray 38 = .ok (.iload_n 3, 1) := by decide +kernel
theorem dX0_addTray_39 : decode cX0_addTray 39 = .ok (.aload_n 0, 1) := by decide +kernel
theorem dX0_addTray_40 : decode cX0_addTray 40 = .ok (.getfield 19, 3) := by decide +kernel
theorem dX0_addTray_43 : decode cX0_addTray 43 = .ok (.iload_n 2, 1) := by decide +kernel
theorem dX0_addTray_44 : decode cX0_addTray 44 = .ok (.iaload, 1) := by decide +kernel
theorem dX0_addTray_45 : decode cX0_addTray 45 = .ok (.if_icmp .le 7, 3) := by decide +kernel
theorem dX0_addTray_48 : decode cX0_addTray 48 = .ok (.iconst 0, 1) := by decide +kernel
theorem dX0_addTray_49 : decode cX0_addTray 49 = .ok (.goto 4, 3) := by decide +kernel
theorem dX0_addTray_52 : decode cX0_addTray 52 = .ok (.iload_n 3, 1) := by decide +kernel
theorem dX0_addTray_53 : decode cX0_addTray 53 = .ok (.iastore, 1) := by decide +kernel
theorem dX0_addTray_54 : decode cX0_addTray 54 = .ok (.return_, 1) := by decide +kernel
theorem dX0_dropTray_0 : decode cX0_dropTray 0 = .ok (.aload_n 0, 1) := by decide +kernel
theorem dX0_dropTray_1 : decode cX0_dropTray 1 = .ok (.getfield 25, 3) := by decide +kernel
theorem dX0_dropTray_4 : decode cX0_dropTray 4 = .ok (.iload_n 1, 1) := by decide +kernel
theorem dX0_dropTray_5 : decode cX0_dropTray 5 = .ok (.iconst (-1), 1) := by decide +kernel
theorem dX0_dropTray_6 : decode cX0_dropTray 6 = .ok (.iastore, 1) := by decide +kernel
theorem dX0_dropTray_7 : decode cX0_dropTray 7 = .ok (.aload_n 0, 1) := by decide +kernel
theorem dX0_dropTray_8 : decode cX0_dropTray 8 = .ok (.dup, 1) := by decide +kernel
theorem dX0_dropTray_9 : decode cX0_dropTray 9 = .ok (.getfield 146, 3) := by decide +kernel
theorem dX0_dropTray_12 : decode cX0_dropTray 12 = .ok (.iconst 1, 1) := by decide +kernel
theorem dX0_dropTray_13 : decode cX0_dropTray 13 = .ok (.iadd, 1) := by decide +kernel
theorem dX0_dropTray_14 : decode cX0_dropTray 14 = .ok (.putfield 146, 3) := by decide +kernel
theorem dX0_dropTray_17 : decode cX0_dropTray 17 = .ok (.return_, 1) := by decide +kernel
set_option maxRecDepth 20000 in
theorem ggX0_layIn_X0_cellsAt : GoodIn wsX0_layIn wsX0_cellsAt := goodIn_r _ [9, 10, 11, 12, 13, 14, 15, 16, 17, 18, 19, 20, 21, 22, 23, 24, 25, 26, 27] (by decide +kernel) (by decide +kernel)
set_option maxRecDepth 20000 in
theorem gX0_layIn_X0_cellsAt : GoodIn wsX0_layIn (wsV RX0 118 RX0 yX0_cellsAt wsX0_cellsAt) := goodIn_app (goodIn_of _ (by decide +kernel)) ggX0_layIn_X0_cellsAt
theorem dX0_layIn_0 : decode cX0_layIn 0 = .ok (.aload_n 0, 1) := by decide +kernel
theorem dX0_layIn_1 : decode cX0_layIn 1 = .ok (.iload_n 2, 1) := by decide +kernel
theorem dX0_layIn_2 : decode cX0_layIn 2 = .ok (.invokevirtual 118, 3) := by decide +kernel
theorem dX0_layIn_5 : decode cX0_layIn 5 = .ok (.istore_n 3, 1) := by decide +kernel
theorem dX0_layIn_6 : decode cX0_layIn 6 = .ok (.iconst 0, 1) := by decide +kernel
theorem dX0_layIn_7 : decode cX0_layIn 7 = .ok (.istore 4, 2) := by decide +kernel
theorem dX0_layIn_9 : decode cX0_layIn 9 = .ok (.iload 4, 2) := by decide +kernel
theorem dX0_layIn_11 : decode cX0_layIn 11 = .ok (.iload_n 3, 1) := by decide +kernel
theorem dX0_layIn_12 : decode cX0_layIn 12 = .ok (.if_icmp .ge 64, 3) := by decide +kernel
theorem dX0_layIn_15 : decode cX0_layIn 15 = .ok (.aload_n 0, 1) := by decide +kernel
theorem dX0_layIn_16 : decode cX0_layIn 16 = .ok (.getfield 34, 3) := by decide +kernel
theorem dX0_layIn_19 : decode cX0_layIn 19 = .ok (.iload_n 2, 1) := by decide +kernel
theorem dX0_layIn_20 : decode cX0_layIn 20 = .ok (.bipush 64, 2) := by decide +kernel
theorem dX0_layIn_22 : decode cX0_layIn 22 = .ok (.imul, 1) := by decide +kernel
theorem dX0_layIn_23 : decode cX0_layIn 23 = .ok (.iload 4, 2) := by decide +kernel
theorem dX0_layIn_25 : decode cX0_layIn 25 = .ok (.iadd, 1) := by decide +kernel
theorem dX0_layIn_26 : decode cX0_layIn 26 = .ok (.iaload, 1) := by decide +kernel
theorem dX0_layIn_27 : decode cX0_layIn 27 = .ok (.iconst (-1), 1) := by decide +kernel
theorem dX0_layIn_28 : decode cX0_layIn 28 = .ok (.if_icmp .ne 42, 3) := by decide +kernel
theorem dX0_layIn_31 : decode cX0_layIn 31 = .ok (.aload_n 0, 1) := by decide +kernel
theorem dX0_layIn_32 : decode cX0_layIn 32 = .ok (.getfield 34, 3) := by decide +kernel
theorem dX0_layIn_35 : decode cX0_layIn 35 = .ok (.iload_n 2, 1) := by decide +kernel
theorem dX0_layIn_36 : decode cX0_layIn 36 = .ok (.bipush 64, 2) := by decide +kernel
theorem dX0_layIn_38 : decode cX0_layIn 38 = .ok (.imul, 1) := by decide +kernel
theorem dX0_layIn_39 : decode cX0_layIn 39 = .ok (.iload 4, 2) := by decide +kernel
theorem dX0_layIn_41 : decode cX0_layIn 41 = .ok (.iadd, 1) := by decide +kernel
theorem dX0_layIn_42 : decode cX0_layIn 42 = .ok (.iload_n 1, 1) := by decide +kernel
theorem dX0_layIn_43 : decode cX0_layIn 43 = .ok (.iastore, 1) := by decide +kernel
theorem dX0_layIn_44 : decode cX0_layIn 44 = .ok (.aload_n 0, 1) := by decide +kernel
theorem dX0_layIn_45 : decode cX0_layIn 45 = .ok (.getfield 31, 3) := by decide +kernel
theorem dX0_layIn_48 : decode cX0_layIn 48 = .ok (.iload_n 2, 1) := by decide +kernel
theorem dX0_layIn_49 : decode cX0_layIn 49 = .ok (.dup2, 1) := by decide +kernel
theorem dX0_layIn_50 : decode cX0_layIn 50 = .ok (.iaload, 1) := by decide +kernel
theorem dX0_layIn_51 : decode cX0_layIn 51 = .ok (.iconst 1, 1) := by decide +kernel
theorem dX0_layIn_52 : decode cX0_layIn 52 = .ok (.iadd, 1) := by decide +kernel
theorem dX0_layIn_53 : decode cX0_layIn 53 = .ok (.iastore, 1) := by decide +kernel
theorem dX0_layIn_54 : decode cX0_layIn 54 = .ok (.aload_n 0, 1) := by decide +kernel
theorem dX0_layIn_55 : decode cX0_layIn 55 = .ok (.getfield 40, 3) := by decide +kernel
theorem dX0_layIn_58 : decode cX0_layIn 58 = .ok (.iload_n 1, 1) := by decide +kernel
theorem dX0_layIn_59 : decode cX0_layIn 59 = .ok (.iload_n 2, 1) := by decide +kernel
theorem dX0_layIn_60 : decode cX0_layIn 60 = .ok (.iastore, 1) := by decide +kernel
theorem dX0_layIn_61 : decode cX0_layIn 61 = .ok (.aload_n 0, 1) := by decide +kernel
theorem dX0_layIn_62 : decode cX0_layIn 62 = .ok (.getfield 43, 3) := by decide +kernel
theorem dX0_layIn_65 : decode cX0_layIn 65 = .ok (.iload_n 1, 1) := by decide +kernel
theorem dX0_layIn_66 : decode cX0_layIn 66 = .ok (.iload 4, 2) := by decide +kernel
theorem dX0_layIn_68 : decode cX0_layIn 68 = .ok (.iastore, 1) := by decide +kernel
theorem dX0_layIn_69 : decode cX0_layIn 69 = .ok (.return_, 1) := by decide +kernel
theorem dX0_layIn_70 : decode cX0_layIn 70 = .ok (.iinc 4 1, 3) := by decide +kernel
theorem dX0_layIn_73 : decode cX0_layIn 73 = .ok (.goto (-64), 3) := by decide +kernel
theorem dX0_layIn_76 : decode cX0_layIn 76 = .ok (.return_, 1) := by decide +kernel
theorem dX0_liftOut_0 : decode cX0_liftOut 0 = .ok (.aload_n 0, 1) := by decide +kernel
theorem dX0_liftOut_1 : decode cX0_liftOut 1 = .ok (.getfield 40, 3) := by decide +kernel
theorem dX0_liftOut_4 : decode cX0_liftOut 4 = .ok (.iload_n 1, 1) := by decide +kernel
theorem dX0_liftOut_5 : decode cX0_liftOut 5 = .ok (.iaload, 1) := by decide +kernel
theorem dX0_liftOut_6 : decode cX0_liftOut 6 = .ok (.istore_n 2, 1) := by decide +kernel
theorem dX0_liftOut_7 : decode cX0_liftOut 7 = .ok (.aload_n 0, 1) := by decide +kernel
theorem dX0_liftOut_8 : decode cX0_liftOut 8 = .ok (.getfield 34, 3) := by decide +kernel
theorem dX0_liftOut_11 : decode cX0_liftOut 11 = .ok (.iload_n 2, 1) := by decide +kernel
theorem dX0_liftOut_12 : decode cX0_liftOut 12 = .ok (.bipush 64, 2) := by decide +kernel
theorem dX0_liftOut_14 : decode cX0_liftOut 14 = .ok (.imul, 1) := by decide +kernel
theorem dX0_liftOut_15 : decode cX0_liftOut 15 = .ok (.aload_n 0, 1) := by decide +kernel
theorem dX0_liftOut_16 : decode cX0_liftOut 16 = .ok (.getfield 43, 3) := by decide +kernel
theorem dX0_liftOut_19 : decode cX0_liftOut 19 = .ok (.iload_n 1, 1) := by decide +kernel
theorem dX0_liftOut_20 : decode cX0_liftOut 20 = .ok (.iaload, 1) := by decide +kernel
theorem dX0_liftOut_21 : decode cX0_liftOut 21 = .ok (.iadd, 1) := by decide +kernel
theorem dX0_liftOut_22 : decode cX0_liftOut 22 = .ok (.iconst (-1), 1) := by decide +kernel
theorem dX0_liftOut_23 : decode cX0_liftOut 23 = .ok (.iastore, 1) := by decide +kernel
theorem dX0_liftOut_24 : decode cX0_liftOut 24 = .ok (.aload_n 0, 1) := by decide +kernel
theorem dX0_liftOut_25 : decode cX0_liftOut 25 = .ok (.getfield 31, 3) := by decide +kernel
theorem dX0_liftOut_28 : decode cX0_liftOut 28 = .ok (.iload_n 2, 1) := by decide +kernel
theorem dX0_liftOut_29 : decode cX0_liftOut 29 = .ok (.dup2, 1) := by decide +kernel
theorem dX0_liftOut_30 : decode cX0_liftOut 30 = .ok (.iaload, 1) := by decide +kernel
theorem dX0_liftOut_31 : decode cX0_liftOut 31 = .ok (.iconst 1, 1) := by decide +kernel
theorem dX0_liftOut_32 : decode cX0_liftOut 32 = .ok (.isub, 1) := by decide +kernel
theorem dX0_liftOut_33 : decode cX0_liftOut 33 = .ok (.iastore, 1) := by decide +kernel
theorem dX0_liftOut_34 : decode cX0_liftOut 34 = .ok (.aload_n 0, 1) := by decide +kernel
theorem dX0_liftOut_35 : decode cX0_liftOut 35 = .ok (.getfield 40, 3) := by decide +kernel
theorem dX0_liftOut_38 : decode cX0_liftOut 38 = .ok (.iload_n 1, 1) := by decide +kernel
theorem dX0_liftOut_39 : decode cX0_liftOut 39 = .ok (.iconst (-1), 1) := by decide +kernel
theorem dX0_liftOut_40 : decode cX0_liftOut 40 = .ok (.iastore, 1) := by decide +kernel
theorem dX0_liftOut_41 : decode cX0_liftOut 41 = .ok (.return_, 1) := by decide +kernel
set_option maxRecDepth 20000 in
theorem ggX0_moveLast_X0_cellsAt : GoodIn wsX0_moveLast wsX0_cellsAt := goodIn_r _ [6, 7, 8, 20, 21, 22, 23, 24, 25, 26, 27, 28, 29, 30, 31, 32, 33, 34, 35] (by decide +kernel) (by decide +kernel)
set_option maxRecDepth 20000 in
theorem gX0_moveLast_X0_cellsAt : GoodIn wsX0_moveLast (wsV RX0 118 RX0 yX0_cellsAt wsX0_cellsAt) := goodIn_app (goodIn_of _ (by decide +kernel)) ggX0_moveLast_X0_cellsAt
set_option maxRecDepth 20000 in
theorem ggX0_moveLast_X0_liftOut : GoodIn wsX0_moveLast wsX0_liftOut := goodIn_r _ [12, 13, 1, 14, 15, 20, 21, 22, 23, 24, 25, 26, 27, 28, 29, 30, 31, 32, 33, 34, 35] (by decide +kernel) (by decide +kernel)
set_option maxRecDepth 20000 in
theorem gX0_moveLast_X0_liftOut : GoodIn wsX0_moveLast (wsV RX0 94 RX0 yX0_liftOut wsX0_liftOut) := goodIn_app (goodIn_of _ (by decide +kernel)) ggX0_moveLast_X0_liftOut
set_option maxRecDepth 20000 in
theorem ggX0_moveLast_X0_layIn : GoodIn wsX0_moveLast wsX0_layIn := goodIn_r _ [19, 1, 15, 13, 14, 2, 3, 4, 5, 6, 7, 8, 20, 21, 22, 23, 24, 25, 26, 27, 28, 29, 30, 31, 32, 33, 34, 35] (by decide +kernel) (by decide +kernel)
set_option maxRecDepth 20000 in
theorem gX0_moveLast_X0_layIn : GoodIn wsX0_moveLast (wsV RX0 83 RX0 yX0_layIn wsX0_layIn) := goodIn_app (goodIn_of _ (by decide +kernel)) ggX0_moveLast_X0_layIn
theorem dX0_moveLast_0 : decode cX0_moveLast 0 = .ok (.aload_n 0, 1) := by decide +kernel
theorem dX0_moveLast_1 : decode cX0_moveLast 1 = .ok (.iload_n 1, 1) := by decide +kernel
theorem dX0_moveLast_2 : decode cX0_moveLast 2 = .ok (.invokevirtual 118, 3) := by decide +kernel
theorem dX0_moveLast_5 : decode cX0_moveLast 5 = .ok (.iconst 1, 1) := by decide +kernel
theorem dX0_moveLast_6 : decode cX0_moveLast 6 = .ok (.isub, 1) := by decide +kernel
theorem dX0_moveLast_7 : decode cX0_moveLast 7 = .ok (.istore_n 3, 1) := by decide +kernel
theorem dX0_moveLast_8 : decode cX0_moveLast 8 = .ok (.iload_n 3, 1) := by decide +kernel
theorem dX0_moveLast_9 : decode cX0_moveLast 9 = .ok (.ifCond .lt 42, 3) := by decide +kernel
theorem dX0_moveLast_12 : decode cX0_moveLast 12 = .ok (.aload_n 0, 1) := by decide +kernel
theorem dX0_moveLast_13 : decode cX0_moveLast 13 = .ok (.getfield 34, 3) := by decide +kernel
theorem dX0_moveLast_16 : decode cX0_moveLast 16 = .ok (.iload_n 1, 1) := by decide +kernel
theorem dX0_moveLast_17 : decode cX0_moveLast 17 = .ok (.bipush 64, 2) := by decide +kernel
theorem dX0_moveLast_19 : decode cX0_moveLast 19 = .ok (.imul, 1) := by decide +kernel
theorem dX0_moveLast_20 : decode cX0_moveLast 20 = .ok (.iload_n 3, 1) := by decide +kernel
theorem dX0_moveLast_21 : decode cX0_moveLast 21 = .ok (.iadd, 1) := by decide +kernel
theorem dX0_moveLast_22 : decode cX0_moveLast 22 = .ok (.iaload, 1) := by decide +kernel
theorem dX0_moveLast_23 : decode cX0_moveLast 23 = .ok (.istore 4, 2) := by decide +kernel
theorem dX0_moveLast_25 : decode cX0_moveLast 25 = .ok (.iload 4, 2) := by decide +kernel
theorem dX0_moveLast_27 : decode cX0_moveLast 27 = .ok (.iconst (-1), 1) := by decide +kernel
theorem dX0_moveLast_28 : decode cX0_moveLast 28 = .ok (.if_icmp .eq 17, 3) := by decide +kernel
theorem dX0_moveLast_31 : decode cX0_moveLast 31 = .ok (.aload_n 0, 1) := by decide +kernel
theorem dX0_moveLast_32 : decode cX0_moveLast 32 = .ok (.iload 4, 2) := by decide +kernel
theorem dX0_moveLast_34 : decode cX0_moveLast 34 = .ok (.invokevirtual 94, 3) := by decide +kernel
theorem dX0_moveLast_37 : decode cX0_moveLast 37 = .ok (.aload_n 0, 1) := by decide +kernel
theorem dX0_moveLast_38 : decode cX0_moveLast 38 = .ok (.iload 4, 2) := by decide +kernel
theorem dX0_moveLast_40 : decode cX0_moveLast 40 = .ok (.iload_n 2, 1) := by decide +kernel
theorem dX0_moveLast_41 : decode cX0_moveLast 41 = .ok (.invokevirtual 83, 3) := by decide +kernel
theorem dX0_moveLast_44 : decode cX0_moveLast 44 = .ok (.return_, 1) := by decide +kernel
theorem dX0_moveLast_45 : decode cX0_moveLast 45 = .ok (.iinc 3 (-1), 3) := by decide +kernel
theorem dX0_moveLast_48 : decode cX0_moveLast 48 = .ok (.goto (-40), 3) := by decide +kernel
theorem dX0_moveLast_51 : decode cX0_moveLast 51 = .ok (.return_, 1) := by decide +kernel
theorem dX0_cellsAt_0 : decode cX0_cellsAt 0 = .ok (.aload_n 0, 1) := by decide +kernel
theorem dX0_cellsAt_1 : decode cX0_cellsAt 1 = .ok (.getfield 25, 3) := by decide +kernel
theorem dX0_cellsAt_4 : decode cX0_cellsAt 4 = .ok (.iload_n 1, 1) := by decide +kernel
theorem dX0_cellsAt_5 : decode cX0_cellsAt 5 = .ok (.iaload, 1) := by decide +kernel
theorem dX0_cellsAt_6 : decode cX0_cellsAt 6 = .ok (.istore_n 2, 1) := by decide +kernel
theorem dX0_cellsAt_7 : decode cX0_cellsAt 7 = .ok (.iload_n 2, 1) := by decide +kernel
theorem dX0_cellsAt_8 : decode cX0_cellsAt 8 = .ok (.iconst (-1), 1) := by decide +kernel
theorem dX0_cellsAt_9 : decode cX0_cellsAt 9 = .ok (.if_icmp .ne 7, 3) := by decide +kernel
theorem dX0_cellsAt_12 : decode cX0_cellsAt 12 = .ok (.iconst 0, 1) := by decide +kernel
theorem dX0_cellsAt_13 : decode cX0_cellsAt 13 = .ok (.goto 9, 3) := by decide +kernel
theorem dX0_cellsAt_16 : decode cX0_cellsAt 16 = .ok (.aload_n 0, 1) := by decide +kernel
theorem dX0_cellsAt_17 : decode cX0_cellsAt 17 = .ok (.getfield 16, 3) := by decide +kernel
theorem dX0_cellsAt_20 : decode cX0_cellsAt 20 = .ok (.iload_n 2, 1) := by decide +kernel
theorem dX0_cellsAt_21 : decode cX0_cellsAt 21 = .ok (.iaload, 1) := by decide +kernel
theorem dX0_cellsAt_22 : decode cX0_cellsAt 22 = .ok (.ireturn, 1) := by decide +kernel
theorem dX0_traysOf_0 : decode cX0_traysOf 0 = .ok (.iconst 0, 1) := by decide +kernel
theorem dX0_traysOf_1 : decode cX0_traysOf 1 = .ok (.istore_n 2, 1) := by decide +kernel
theorem dX0_traysOf_2 : decode cX0_traysOf 2 = .ok (.iconst 0, 1) := by decide +kernel
theorem dX0_traysOf_3 : decode cX0_traysOf 3 = .ok (.istore_n 3, 1) := by decide +kernel
theorem dX0_traysOf_4 : decode cX0_traysOf 4 = .ok (.iload_n 3, 1) := by decide +kernel
theorem dX0_traysOf_5 : decode cX0_traysOf 5 = .ok (.bipush 20, 2) := by decide +kernel
theorem dX0_traysOf_7 : decode cX0_traysOf 7 = .ok (.if_icmp .ge 22, 3) := by decide +kernel
theorem dX0_traysOf_10 : decode cX0_traysOf 10 = .ok (.aload_n 0, 1) := by decide +kernel
theorem dX0_traysOf_11 : decode cX0_traysOf 11 = .ok (.getfield 25, 3) := by decide +kernel
theorem dX0_traysOf_14 : decode cX0_traysOf 14 = .ok (.iload_n 3, 1) := by decide +kernel
theorem dX0_traysOf_15 : decode cX0_traysOf 15 = .ok (.iaload, 1) := by decide +kernel
theorem dX0_traysOf_16 : decode cX0_traysOf 16 = .ok (.iload_n 1, 1) := by decide +kernel
theorem dX0_traysOf_17 : decode cX0_traysOf 17 = .ok (.if_icmp .ne 6, 3) := by decide +kernel
theorem dX0_traysOf_20 : decode cX0_traysOf 20 = .ok (.iinc 2 1, 3) := by decide +kernel
theorem dX0_traysOf_23 : decode cX0_traysOf 23 = .ok (.iinc 3 1, 3) := by decide +kernel
theorem dX0_traysOf_26 : decode cX0_traysOf 26 = .ok (.goto (-22), 3) := by decide +kernel
theorem dX0_traysOf_29 : decode cX0_traysOf 29 = .ok (.iload_n 2, 1) := by decide +kernel
theorem dX0_traysOf_30 : decode cX0_traysOf 30 = .ok (.ireturn, 1) := by decide +kernel
theorem dX0_traysHolding_0 : decode cX0_traysHolding 0 = .ok (.iconst 0, 1) := by decide +kernel
theorem dX0_traysHolding_1 : decode cX0_traysHolding 1 = .ok (.istore_n 3, 1) := by decide +kernel
theorem dX0_traysHolding_2 : decode cX0_traysHolding 2 = .ok (.iconst 0, 1) := by decide +kernel
theorem dX0_traysHolding_3 : decode cX0_traysHolding 3 = .ok (.istore 4, 2) := by decide +kernel
theorem dX0_traysHolding_5 : decode cX0_traysHolding 5 = .ok (.iload 4, 2) := by decide +kernel
theorem dX0_traysHolding_7 : decode cX0_traysHolding 7 = .ok (.bipush 20, 2) := by decide +kernel
theorem dX0_traysHolding_9 : decode cX0_traysHolding 9 = .ok (.if_icmp .ge 34, 3) := by decide +kernel
theorem dX0_traysHolding_12 : decode cX0_traysHolding 12 = .ok (.aload_n 0, 1) := by decide +kernel
theorem dX0_traysHolding_13 : decode cX0_traysHolding 13 = .ok (.getfield 25, 3) := by decide +kernel
theorem dX0_traysHolding_16 : decode cX0_traysHolding 16 = .ok (.iload 4, 2) := by decide +kernel
theorem dX0_traysHolding_18 : decode cX0_traysHolding 18 = .ok (.iaload, 1) := by decide +kernel
theorem dX0_traysHolding_19 : decode cX0_traysHolding 19 = .ok (.iload_n 1, 1) := by decide +kernel
theorem dX0_traysHolding_20 : decode cX0_traysHolding 20 = .ok (.if_icmp .ne 17, 3) := by decide +kernel
theorem dX0_traysHolding_23 : decode cX0_traysHolding 23 = .ok (.aload_n 0, 1) := by decide +kernel
theorem dX0_traysHolding_24 : decode cX0_traysHolding 24 = .ok (.getfield 31, 3) := by decide +kernel
theorem dX0_traysHolding_27 : decode cX0_traysHolding 27 = .ok (.iload 4, 2) := by decide +kernel
theorem dX0_traysHolding_29 : decode cX0_traysHolding 29 = .ok (.iaload, 1) := by decide +kernel
theorem dX0_traysHolding_30 : decode cX0_traysHolding 30 = .ok (.iload_n 2, 1) := by decide +kernel
theorem dX0_traysHolding_31 : decode cX0_traysHolding 31 = .ok (.if_icmp .ne 6, 3) := by decide +kernel
theorem dX0_traysHolding_34 : decode cX0_traysHolding 34 = .ok (.iinc 3 1, 3) := by decide +kernel
theorem dX0_traysHolding_37 : decode cX0_traysHolding 37 = .ok (.iinc 4 1, 3) := by decide +kernel
theorem dX0_traysHolding_40 : decode cX0_traysHolding 40 = .ok (.goto (-35), 3) := by decide +kernel
theorem dX0_traysHolding_43 : decode cX0_traysHolding 43 = .ok (.iload_n 3, 1) := by decide +kernel
theorem dX0_traysHolding_44 : decode cX0_traysHolding 44 = .ok (.ireturn, 1) := by decide +kernel
theorem dX0_thingsOf_0 : decode cX0_thingsOf 0 = .ok (.iconst 0, 1) := by decide +kernel
theorem dX0_thingsOf_1 : decode cX0_thingsOf 1 = .ok (.istore_n 2, 1) := by decide +kernel
theorem dX0_thingsOf_2 : decode cX0_thingsOf 2 = .ok (.iconst 0, 1) := by decide +kernel
theorem dX0_thingsOf_3 : decode cX0_thingsOf 3 = .ok (.istore_n 3, 1) := by decide +kernel
theorem dX0_thingsOf_4 : decode cX0_thingsOf 4 = .ok (.iload_n 3, 1) := by decide +kernel
theorem dX0_thingsOf_5 : decode cX0_thingsOf 5 = .ok (.bipush 20, 2) := by decide +kernel
theorem dX0_thingsOf_7 : decode cX0_thingsOf 7 = .ok (.if_icmp .ge 28, 3) := by decide +kernel
theorem dX0_thingsOf_10 : decode cX0_thingsOf 10 = .ok (.aload_n 0, 1) := by decide +kernel
theorem dX0_thingsOf_11 : decode cX0_thingsOf 11 = .ok (.getfield 25, 3) := by decide +kernel
theorem dX0_thingsOf_14 : decode cX0_thingsOf 14 = .ok (.iload_n 3, 1) := by decide +kernel
theorem dX0_thingsOf_15 : decode cX0_thingsOf 15 = .ok (.iaload, 1) := by decide +kernel
theorem dX0_thingsOf_16 : decode cX0_thingsOf 16 = .ok (.iload_n 1, 1) := by decide +kernel
theorem dX0_thingsOf_17 : decode cX0_thingsOf 17 = .ok (.if_icmp .ne 12, 3) := by decide +kernel
theorem dX0_thingsOf_20 : decode cX0_thingsOf 20 = .ok (.iload_n 2, 1) := by decide +kernel
theorem dX0_thingsOf_21 : decode cX0_thingsOf 21 = .ok (.aload_n 0, 1) := by decide +kernel
theorem dX0_thingsOf_22 : decode cX0_thingsOf 22 = .ok (.getfield 31, 3) := by decide +kernel
theorem dX0_thingsOf_25 : decode cX0_thingsOf 25 = .ok (.iload_n 3, 1) := by decide +kernel
theorem dX0_thingsOf_26 : decode cX0_thingsOf 26 = .ok (.iaload, 1) := by decide +kernel
theorem dX0_thingsOf_27 : decode cX0_thingsOf 27 = .ok (.iadd, 1) := by decide +kernel
theorem dX0_thingsOf_28 : decode cX0_thingsOf 28 = .ok (.istore_n 2, 1) := by decide +kernel
theorem dX0_thingsOf_29 : decode cX0_thingsOf 29 = .ok (.iinc 3 1, 3) := by decide +kernel
theorem dX0_thingsOf_32 : decode cX0_thingsOf 32 = .ok (.goto (-28), 3) := by decide +kernel
theorem dX0_thingsOf_35 : decode cX0_thingsOf 35 = .ok (.iload_n 2, 1) := by decide +kernel
theorem dX0_thingsOf_36 : decode cX0_thingsOf 36 = .ok (.ireturn, 1) := by decide +kernel
set_option maxRecDepth 20000 in
theorem ggX0_freeCellsOf_X0_traysOf : GoodIn wsX0_freeCellsOf wsX0_traysOf := goodIn_r _ [6, 7, 13, 14, 15, 16, 17, 18, 19, 20, 21, 22, 23, 24, 25, 26, 27, 28] (by decide +kernel) (by decide +kernel)
set_option maxRecDepth 20000 in
theorem gX0_freeCellsOf_X0_traysOf : GoodIn wsX0_freeCellsOf (wsV RX0 126 RX0 yX0_traysOf wsX0_traysOf) := goodIn_app (goodIn_of _ (by decide +kernel)) ggX0_freeCellsOf_X0_traysOf
set_option maxRecDepth 20000 in
theorem ggX0_freeCellsOf_X0_thingsOf : GoodIn wsX0_freeCellsOf wsX0_thingsOf := goodIn_r _ [11, 7, 12, 13, 14, 15, 16, 17, 18, 19, 20, 21, 22, 23, 24, 25, 26, 27, 28] (by decide +kernel) (by decide +kernel)
set_option maxRecDepth 20000 in
theorem gX0_freeCellsOf_X0_thingsOf : GoodIn wsX0_freeCellsOf (wsV RX0 133 RX0 yX0_thingsOf wsX0_thingsOf) := goodIn_app (goodIn_of _ (by decide +kernel)) ggX0_freeCellsOf_X0_thingsOf
theorem dX0_freeCellsOf_0 : decode cX0_freeCellsOf 0 = .ok (.aload_n 0, 1) := by decide +kernel
theorem dX0_freeCellsOf_1 : decode cX0_freeCellsOf 1 = .ok (.iload_n 1, 1) := by decide +kernel
theorem dX0_freeCellsOf_2 : decode cX0_freeCellsOf 2 = .ok (.invokevirtual 126, 3) := by decide +kernel
theorem dX0_freeCellsOf_5 : decode cX0_freeCellsOf 5 = .ok (.aload_n 0, 1) := by decide +kernel
theorem dX0_freeCellsOf_6 : decode cX0_freeCellsOf 6 = .ok (.getfield 16, 3) := by decide +kernel
theorem dX0_freeCellsOf_9 : decode cX0_freeCellsOf 9 = .ok (.iload_n 1, 1) := by decide +kernel
theorem dX0_freeCellsOf_10 : decode cX0_freeCellsOf 10 = .ok (.iaload, 1) := by decide +kernel
theorem dX0_freeCellsOf_11 : decode cX0_freeCellsOf 11 = .ok (.imul, 1) := by decide +kernel
theorem dX0_freeCellsOf_12 : decode cX0_freeCellsOf 12 = .ok (.aload_n 0, 1) := by decide +kernel
theorem dX0_freeCellsOf_13 : decode cX0_freeCellsOf 13 = .ok (.iload_n 1, 1) := by decide +kernel
theorem dX0_freeCellsOf_14 : decode cX0_freeCellsOf 14 = .ok (.invokevirtual 133, 3) := by decide +kernel
theorem dX0_freeCellsOf_17 : decode cX0_freeCellsOf 17 = .ok (.isub, 1) := by decide +kernel
theorem dX0_freeCellsOf_18 : decode cX0_freeCellsOf 18 = .ok (.ireturn, 1) := by decide +kernel
set_option maxRecDepth 20000 in
theorem ggX0_wastedBy_X0_traysOf : GoodIn wsX0_wastedBy wsX0_traysOf := goodIn_r _ [6, 7, 13, 14, 15, 16, 17, 18, 19, 20, 21, 22, 23, 24, 25, 26, 27, 28] (by decide +kernel) (by decide +kernel)
set_option maxRecDepth 20000 in
theorem gX0_wastedBy_X0_traysOf : GoodIn wsX0_wastedBy (wsV RX0 126 RX0 yX0_traysOf wsX0_traysOf) := goodIn_app (goodIn_of _ (by decide +kernel)) ggX0_wastedBy_X0_traysOf
set_option maxRecDepth 20000 in
theorem ggX0_wastedBy_X0_thingsOf : GoodIn wsX0_wastedBy wsX0_thingsOf := goodIn_r _ [11, 7, 12, 13, 14, 15, 16, 17, 18, 19, 20, 21, 22, 23, 24, 25, 26, 27, 28] (by decide +kernel) (by decide +kernel)
set_option maxRecDepth 20000 in
theorem gX0_wastedBy_X0_thingsOf : GoodIn wsX0_wastedBy (wsV RX0 133 RX0 yX0_thingsOf wsX0_thingsOf) := goodIn_app (goodIn_of _ (by decide +kernel)) ggX0_wastedBy_X0_thingsOf
theorem dX0_wastedBy_0 : decode cX0_wastedBy 0 = .ok (.aload_n 0, 1) := by decide +kernel
theorem dX0_wastedBy_1 : decode cX0_wastedBy 1 = .ok (.iload_n 1, 1) := by decide +kernel
theorem dX0_wastedBy_2 : decode cX0_wastedBy 2 = .ok (.invokevirtual 126, 3) := by decide +kernel
theorem dX0_wastedBy_5 : decode cX0_wastedBy 5 = .ok (.bipush 64, 2) := by decide +kernel
theorem dX0_wastedBy_7 : decode cX0_wastedBy 7 = .ok (.imul, 1) := by decide +kernel
theorem dX0_wastedBy_8 : decode cX0_wastedBy 8 = .ok (.aload_n 0, 1) := by decide +kernel
theorem dX0_wastedBy_9 : decode cX0_wastedBy 9 = .ok (.iload_n 1, 1) := by decide +kernel
theorem dX0_wastedBy_10 : decode cX0_wastedBy 10 = .ok (.invokevirtual 133, 3) := by decide +kernel
theorem dX0_wastedBy_13 : decode cX0_wastedBy 13 = .ok (.aload_n 0, 1) := by decide +kernel
theorem dX0_wastedBy_14 : decode cX0_wastedBy 14 = .ok (.getfield 9, 3) := by decide +kernel
theorem dX0_wastedBy_17 : decode cX0_wastedBy 17 = .ok (.iload_n 1, 1) := by decide +kernel
theorem dX0_wastedBy_18 : decode cX0_wastedBy 18 = .ok (.iaload, 1) := by decide +kernel
theorem dX0_wastedBy_19 : decode cX0_wastedBy 19 = .ok (.imul, 1) := by decide +kernel
theorem dX0_wastedBy_20 : decode cX0_wastedBy 20 = .ok (.isub, 1) := by decide +kernel
theorem dX0_wastedBy_21 : decode cX0_wastedBy 21 = .ok (.ireturn, 1) := by decide +kernel
set_option maxRecDepth 20000 in
theorem ggX0_thingsThere_X0_thingsOf : GoodIn wsX0_thingsThere wsX0_thingsOf := goodIn_r _ [6, 7, 8, 9, 10, 11, 12, 13, 14, 15, 16, 17, 18, 19, 20, 21, 22, 23, 24] (by decide +kernel) (by decide +kernel)
set_option maxRecDepth 20000 in
theorem gX0_thingsThere_X0_thingsOf : GoodIn wsX0_thingsThere (wsV RX0 133 RX0 yX0_thingsOf wsX0_thingsOf) := goodIn_app (goodIn_of _ (by decide +kernel)) ggX0_thingsThere_X0_thingsOf
theorem dX0_thingsThere_0 : decode cX0_thingsThere 0 = .ok (.iconst 0, 1) := by decide +kernel
theorem dX0_thingsThere_1 : decode cX0_thingsThere 1 = .ok (.istore_n 1, 1) := by decide +kernel
theorem dX0_thingsThere_2 : decode cX0_thingsThere 2 = .ok (.iconst 0, 1) := by decide +kernel
theorem dX0_thingsThere_3 : decode cX0_thingsThere 3 = .ok (.istore_n 2, 1) := by decide +kernel
theorem dX0_thingsThere_4 : decode cX0_thingsThere 4 = .ok (.iload_n 2, 1) := by decide +kernel
theorem dX0_thingsThere_5 : decode cX0_thingsThere 5 = .ok (.aload_n 0, 1) := by decide +kernel
theorem dX0_thingsThere_6 : decode cX0_thingsThere 6 = .ok (.getfield 55, 3) := by decide +kernel
theorem dX0_thingsThere_9 : decode cX0_thingsThere 9 = .ok (.if_icmp .ge 17, 3) := by decide +kernel
theorem dX0_thingsThere_12 : decode cX0_thingsThere 12 = .ok (.iload_n 1, 1) := by decide +kernel
theorem dX0_thingsThere_13 : decode cX0_thingsThere 13 = .ok (.aload_n 0, 1) := by decide +kernel
theorem dX0_thingsThere_14 : decode cX0_thingsThere 14 = .ok (.iload_n 2, 1) := by decide +kernel
theorem dX0_thingsThere_15 : decode cX0_thingsThere 15 = .ok (.invokevirtual 133, 3) := by decide +kernel
theorem dX0_thingsThere_18 : decode cX0_thingsThere 18 = .ok (.iadd, 1) := by decide +kernel
theorem dX0_thingsThere_19 : decode cX0_thingsThere 19 = .ok (.istore_n 1, 1) := by decide +kernel
theorem dX0_thingsThere_20 : decode cX0_thingsThere 20 = .ok (.iinc 2 1, 3) := by decide +kernel
theorem dX0_thingsThere_23 : decode cX0_thingsThere 23 = .ok (.goto (-19), 3) := by decide +kernel
theorem dX0_thingsThere_26 : decode cX0_thingsThere 26 = .ok (.iload_n 1, 1) := by decide +kernel
theorem dX0_thingsThere_27 : decode cX0_thingsThere 27 = .ok (.ireturn, 1) := by decide +kernel
set_option maxRecDepth 20000 in
theorem ggX0_wastedInAll_X0_wastedBy : GoodIn wsX0_wastedInAll wsX0_wastedBy := goodIn_r _ [6, 7, 8, 9, 10, 5, 11, 12, 13, 14, 15, 16, 17, 18, 19, 20, 21, 22, 23, 24, 25, 26, 27, 28, 29, 30, 31, 32, 33] (by decide +kernel) (by decide +kernel)
set_option maxRecDepth 20000 in
theorem gX0_wastedInAll_X0_wastedBy : GoodIn wsX0_wastedInAll (wsV RX0 149 RX0 yX0_wastedBy wsX0_wastedBy) := goodIn_app (goodIn_of _ (by decide +kernel)) ggX0_wastedInAll_X0_wastedBy
theorem dX0_wastedInAll_0 : decode cX0_wastedInAll 0 = .ok (.iconst 0, 1) := by decide +kernel
theorem dX0_wastedInAll_1 : decode cX0_wastedInAll 1 = .ok (.istore_n 1, 1) := by decide +kernel
theorem dX0_wastedInAll_2 : decode cX0_wastedInAll 2 = .ok (.iconst 0, 1) := by decide +kernel
theorem dX0_wastedInAll_3 : decode cX0_wastedInAll 3 = .ok (.istore_n 2, 1) := by decide +kernel
theorem dX0_wastedInAll_4 : decode cX0_wastedInAll 4 = .ok (.iload_n 2, 1) := by decide +kernel
theorem dX0_wastedInAll_5 : decode cX0_wastedInAll 5 = .ok (.aload_n 0, 1) := by decide +kernel
theorem dX0_wastedInAll_6 : decode cX0_wastedInAll 6 = .ok (.getfield 55, 3) := by decide +kernel
theorem dX0_wastedInAll_9 : decode cX0_wastedInAll 9 = .ok (.if_icmp .ge 17, 3) := by decide +kernel
theorem dX0_wastedInAll_12 : decode cX0_wastedInAll 12 = .ok (.iload_n 1, 1) := by decide +kernel
theorem dX0_wastedInAll_13 : decode cX0_wastedInAll 13 = .ok (.aload_n 0, 1) := by decide +kernel
theorem dX0_wastedInAll_14 : decode cX0_wastedInAll 14 = .ok (.iload_n 2, 1) := by decide +kernel
theorem dX0_wastedInAll_15 : decode cX0_wastedInAll 15 = .ok (.invokevirtual 149, 3) := by decide +kernel
theorem dX0_wastedInAll_18 : decode cX0_wastedInAll 18 = .ok (.iadd, 1) := by decide +kernel
theorem dX0_wastedInAll_19 : decode cX0_wastedInAll 19 = .ok (.istore_n 1, 1) := by decide +kernel
theorem dX0_wastedInAll_20 : decode cX0_wastedInAll 20 = .ok (.iinc 2 1, 3) := by decide +kernel
theorem dX0_wastedInAll_23 : decode cX0_wastedInAll 23 = .ok (.goto (-19), 3) := by decide +kernel
theorem dX0_wastedInAll_26 : decode cX0_wastedInAll 26 = .ok (.iload_n 1, 1) := by decide +kernel
theorem dX0_wastedInAll_27 : decode cX0_wastedInAll 27 = .ok (.ireturn, 1) := by decide +kernel
