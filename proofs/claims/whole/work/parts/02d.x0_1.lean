theorem dX0_init_0 : decode cX0_init 0 = .ok (.aload_n 0, 1) := by decide +kernel
theorem dX0_init_1 : decode cX0_init 1 = .ok (.invokespecial 1, 3) := by decide +kernel
theorem dX0_init_4 : decode cX0_init 4 = .ok (.aload_n 0, 1) := by decide +kernel
theorem dX0_init_5 : decode cX0_init 5 = .ok (.bipush 6, 2) := by decide +kernel
theorem dX0_init_7 : decode cX0_init 7 = .ok (.newarray .int, 2) := by decide +kernel
theorem dX0_init_9 : decode cX0_init 9 = .ok (.putfield 9, 3) := by decide +kernel
theorem dX0_init_12 : decode cX0_init 12 = .ok (.aload_n 0, 1) := by decide +kernel
theorem dX0_init_13 : decode cX0_init 13 = .ok (.bipush 6, 2) := by decide +kernel
theorem dX0_init_15 : decode cX0_init 15 = .ok (.newarray .int, 2) := by decide +kernel
theorem dX0_init_17 : decode cX0_init 17 = .ok (.putfield 13, 3) := by decide +kernel
theorem dX0_init_20 : decode cX0_init 20 = .ok (.aload_n 0, 1) := by decide +kernel
theorem dX0_init_21 : decode cX0_init 21 = .ok (.bipush 6, 2) := by decide +kernel
theorem dX0_init_23 : decode cX0_init 23 = .ok (.newarray .int, 2) := by decide +kernel
theorem dX0_init_25 : decode cX0_init 25 = .ok (.putfield 16, 3) := by decide +kernel
theorem dX0_init_28 : decode cX0_init 28 = .ok (.aload_n 0, 1) := by decide +kernel
theorem dX0_init_29 : decode cX0_init 29 = .ok (.bipush 6, 2) := by decide +kernel
theorem dX0_init_31 : decode cX0_init 31 = .ok (.newarray .int, 2) := by decide +kernel
theorem dX0_init_33 : decode cX0_init 33 = .ok (.putfield 19, 3) := by decide +kernel
theorem dX0_init_36 : decode cX0_init 36 = .ok (.aload_n 0, 1) := by decide +kernel
theorem dX0_init_37 : decode cX0_init 37 = .ok (.bipush 6, 2) := by decide +kernel
theorem dX0_init_39 : decode cX0_init 39 = .ok (.newarray .int, 2) := by decide +kernel
theorem dX0_init_41 : decode cX0_init 41 = .ok (.putfield 22, 3) := by decide +kernel
theorem dX0_init_44 : decode cX0_init 44 = .ok (.aload_n 0, 1) := by decide +kernel
theorem dX0_init_45 : decode cX0_init 45 = .ok (.bipush 20, 2) := by decide +kernel
theorem dX0_init_47 : decode cX0_init 47 = .ok (.newarray .int, 2) := by decide +kernel
theorem dX0_init_49 : decode cX0_init 49 = .ok (.putfield 25, 3) := by decide +kernel
theorem dX0_init_52 : decode cX0_init 52 = .ok (.aload_n 0, 1) := by decide +kernel
theorem dX0_init_53 : decode cX0_init 53 = .ok (.bipush 20, 2) := by decide +kernel
theorem dX0_init_55 : decode cX0_init 55 = .ok (.newarray .int, 2) := by decide +kernel
theorem dX0_init_57 : decode cX0_init 57 = .ok (.putfield 28, 3) := by decide +kernel
theorem dX0_init_60 : decode cX0_init 60 = .ok (.aload_n 0, 1) := by decide +kernel
theorem dX0_init_61 : decode cX0_init 61 = .ok (.bipush 20, 2) := by decide +kernel
theorem dX0_init_63 : decode cX0_init 63 = .ok (.newarray .int, 2) := by decide +kernel
theorem dX0_init_65 : decode cX0_init 65 = .ok (.putfield 31, 3) := by decide +kernel
theorem dX0_init_68 : decode cX0_init 68 = .ok (.aload_n 0, 1) := by decide +kernel
theorem dX0_init_69 : decode cX0_init 69 = .ok (.sipush 1280, 3) := by decide +kernel
theorem dX0_init_72 : decode cX0_init 72 = .ok (.newarray .int, 2) := by decide +kernel
theorem dX0_init_74 : decode cX0_init 74 = .ok (.putfield 34, 3) := by decide +kernel
theorem dX0_init_77 : decode cX0_init 77 = .ok (.aload_n 0, 1) := by decide +kernel
theorem dX0_init_78 : decode cX0_init 78 = .ok (.sipush 150, 3) := by decide +kernel
theorem dX0_init_81 : decode cX0_init 81 = .ok (.newarray .int, 2) := by decide +kernel
theorem dX0_init_83 : decode cX0_init 83 = .ok (.putfield 37, 3) := by decide +kernel
theorem dX0_init_86 : decode cX0_init 86 = .ok (.aload_n 0, 1) := by decide +kernel
theorem dX0_init_87 : decode cX0_init 87 = .ok (.sipush 150, 3) := by decide +kernel
theorem dX0_init_90 : decode cX0_init 90 = .ok (.newarray .int, 2) := by decide +kernel
theorem dX0_init_92 : decode cX0_init 92 = .ok (.putfield 40, 3) := by decide +kernel
theorem dX0_init_95 : decode cX0_init 95 = .ok (.aload_n 0, 1) := by decide +kernel
theorem dX0_init_96 : decode cX0_init 96 = .ok (.sipush 150, 3) := by decide +kernel
theorem dX0_init_99 : decode cX0_init 99 = .ok (.newarray .int, 2) := by decide +kernel
theorem dX0_init_101 : decode cX0_init 101 = .ok (.putfield 43, 3) := by decide +kernel
theorem dX0_init_104 : decode cX0_init 104 = .ok (.iconst 0, 1) := by decide +kernel
theorem dX0_init_105 : decode cX0_init 105 = .ok (.istore_n 1, 1) := by decide +kernel
theorem dX0_init_106 : decode cX0_init 106 = .ok (.iload_n 1, 1) := by decide +kernel
theorem dX0_init_107 : decode cX0_init 107 = .ok (.bipush 20, 2) := by decide +kernel
theorem dX0_init_109 : decode cX0_init 109 = .ok (.if_icmp .ge 16, 3) := by decide +kernel
theorem dX0_init_112 : decode cX0_init 112 = .ok (.aload_n 0, 1) := by decide +kernel
theorem dX0_init_113 : decode cX0_init 113 = .ok (.getfield 25, 3) := by decide +kernel
theorem dX0_init_116 : decode cX0_init 116 = .ok (.iload_n 1, 1) := by decide +kernel
theorem dX0_init_117 : decode cX0_init 117 = .ok (.iconst (-1), 1) := by decide +kernel
theorem dX0_init_118 : decode cX0_init 118 = .ok (.iastore, 1) := by decide +kernel
theorem dX0_init_119 : decode cX0_init 119 = .ok (.iinc 1 1, 3) := by decide +kernel
theorem dX0_init_122 : decode cX0_init 122 = .ok (.goto (-16), 3) := by decide +kernel
theorem dX0_init_125 : decode cX0_init 125 = .ok (.iconst 0, 1) := by decide +kernel
theorem dX0_init_126 : decode cX0_init 126 = .ok (.istore_n 1, 1) := by decide +kernel
theorem dX0_init_127 : decode cX0_init 127 = .ok (.iload_n 1, 1) := by decide +kernel
theorem dX0_init_128 : decode cX0_init 128 = .ok (.sipush 1280, 3) := by decide +kernel
theorem dX0_init_131 : decode cX0_init 131 = .ok (.if_icmp .ge 16, 3) := by decide +kernel
theorem dX0_init_134 : decode cX0_init 134 = .ok (.aload_n 0, 1) := by decide +kernel
theorem dX0_init_135 : decode cX0_init 135 = .ok (.getfield 34, 3) := by decide +kernel
theorem dX0_init_138 : decode cX0_init 138 = .ok (.iload_n 1, 1) := by decide +kernel
theorem dX0_init_139 : decode cX0_init 139 = .ok (.iconst (-1), 1) := by decide +kernel
theorem dX0_init_140 : decode cX0_init 140 = .ok (.iastore, 1) := by decide +kernel
theorem dX0_init_141 : decode cX0_init 141 = .ok (.iinc 1 1, 3) := by decide +kernel
theorem dX0_init_144 : decode cX0_init 144 = .ok (.goto (-17), 3) := by decide +kernel
theorem dX0_init_147 : decode cX0_init 147 = .ok (.return_, 1) := by decide +kernel
theorem dX0_kind_0 : decode cX0_kind 0 = .ok (.iload_n 1, 1) := by decide +kernel
theorem dX0_kind_1 : decode cX0_kind 1 = .ok (.iconst 1, 1) := by decide +kernel
theorem dX0_kind_2 : decode cX0_kind 2 = .ok (.if_icmp .lt 9, 3) := by decide +kernel
theorem dX0_kind_5 : decode cX0_kind 5 = .ok (.iload_n 1, 1) := by decide +kernel
theorem dX0_kind_6 : decode cX0_kind 6 = .ok (.bipush 32, 2) := by decide +kernel
theorem dX0_kind_8 : decode cX0_kind 8 = .ok (.if_icmp .le 13, 3) := by decide +kernel
theorem dX0_kind_11 : decode cX0_kind 11 = .ok (.new 46, 3) := by decide +kernel
theorem dX0_kind_14 : decode cX0_kind 14 = .ok (.dup, 1) := by decide +kernel
theorem dX0_kind_15 : decode cX0_kind 15 = .ok (.ldc 48, 2) := by decide +kernel
theorem dX0_kind_17 : decode cX0_kind 17 = .ok (.invokespecial 50, 3) := by decide +kernel
theorem dX0_kind_20 : decode cX0_kind 20 = .ok (.athrow, 1) := by decide +kernel
theorem dX0_kind_21 : decode cX0_kind 21 = .ok (.iload_n 2, 1) := by decide +kernel
theorem dX0_kind_22 : decode cX0_kind 22 = .ok (.iconst 1, 1) := by decide +kernel
theorem dX0_kind_23 : decode cX0_kind 23 = .ok (.if_icmp .lt 9, 3) := by decide +kernel
theorem dX0_kind_26 : decode cX0_kind 26 = .ok (.iload_n 2, 1) := by decide +kernel
theorem dX0_kind_27 : decode cX0_kind 27 = .ok (.bipush 16, 2) := by decide +kernel
theorem dX0_kind_29 : decode cX0_kind 29 = .ok (.if_icmp .le 13, 3) := by decide +kernel
theorem dX0_kind_32 : decode cX0_kind 32 = .ok (.new 46, 3) := by decide +kernel
theorem dX0_kind_35 : decode cX0_kind 35 = .ok (.dup, 1) := by decide +kernel
theorem dX0_kind_36 : decode cX0_kind 36 = .ok (.ldc 53, 2) := by decide +kernel
theorem dX0_kind_38 : decode cX0_kind 38 = .ok (.invokespecial 50, 3) := by decide +kernel
theorem dX0_kind_41 : decode cX0_kind 41 = .ok (.athrow, 1) := by decide +kernel
theorem dX0_kind_42 : decode cX0_kind 42 = .ok (.aload_n 0, 1) := by decide +kernel
theorem dX0_kind_43 : decode cX0_kind 43 = .ok (.getfield 55, 3) := by decide +kernel
theorem dX0_kind_46 : decode cX0_kind 46 = .ok (.bipush 6, 2) := by decide +kernel
theorem dX0_kind_48 : decode cX0_kind 48 = .ok (.if_icmp .lt 13, 3) := by decide +kernel
theorem dX0_kind_51 : decode cX0_kind 51 = .ok (.new 59, 3) := by decide +kernel
theorem dX0_kind_54 : decode cX0_kind 54 = .ok (.dup, 1) := by decide +kernel
theorem dX0_kind_55 : decode cX0_kind 55 = .ok (.ldc 61, 2) := by decide +kernel
theorem dX0_kind_57 : decode cX0_kind 57 = .ok (.invokespecial 63, 3) := by decide +kernel
theorem dX0_kind_60 : decode cX0_kind 60 = .ok (.athrow, 1) := by decide +kernel
theorem dX0_kind_61 : decode cX0_kind 61 = .ok (.aload_n 0, 1) := by decide +kernel
theorem dX0_kind_62 : decode cX0_kind 62 = .ok (.getfield 55, 3) := by decide +kernel
theorem dX0_kind_65 : decode cX0_kind 65 = .ok (.istore_n 3, 1) := by decide +kernel
theorem dX0_kind_66 : decode cX0_kind 66 = .ok (.aload_n 0, 1) := by decide +kernel
theorem dX0_kind_67 : decode cX0_kind 67 = .ok (.getfield 9, 3) := by decide +kernel
theorem dX0_kind_70 : decode cX0_kind 70 = .ok (.iload_n 3, 1) := by decide +kernel
theorem dX0_kind_71 : decode cX0_kind 71 = .ok (.iload_n 1, 1) := by decide +kernel
theorem dX0_kind_72 : decode cX0_kind 72 = .ok (.iastore, 1) := by decide +kernel
theorem dX0_kind_73 : decode cX0_kind 73 = .ok (.aload_n 0, 1) := by decide +kernel
theorem dX0_kind_74 : decode cX0_kind 74 = .ok (.getfield 13, 3) := by decide +kernel
theorem dX0_kind_77 : decode cX0_kind 77 = .ok (.iload_n 3, 1) := by decide +kernel
theorem dX0_kind_78 : decode cX0_kind 78 = .ok (.iload_n 2, 1) := by decide +kernel
theorem dX0_kind_79 : decode cX0_kind 79 = .ok (.iastore, 1) := by decide +kernel
theorem dX0_kind_80 : decode cX0_kind 80 = .ok (.aload_n 0, 1) := by decide +kernel
theorem dX0_kind_81 : decode cX0_kind 81 = .ok (.getfield 16, 3) := by decide +kernel
theorem dX0_kind_84 : decode cX0_kind 84 = .ok (.iload_n 3, 1) := by decide +kernel
theorem dX0_kind_85 : decode cX0_kind 85 = .ok (.bipush 64, 2) := by decide +kernel
theorem dX0_kind_87 : decode cX0_kind 87 = .ok (.iload_n 1, 1) := by decide +kernel
theorem dX0_kind_88 : decode cX0_kind 88 = .ok (.idiv, 1) := by decide +kernel
theorem dX0_kind_89 : decode cX0_kind 89 = .ok (.iastore, 1) := by decide +kernel
theorem dX0_kind_90 : decode cX0_kind 90 = .ok (.aload_n 0, 1) := by decide +kernel
theorem dX0_kind_91 : decode cX0_kind 91 = .ok (.getfield 19, 3) := by decide +kernel
theorem dX0_kind_94 : decode cX0_kind 94 = .ok (.iload_n 3, 1) := by decide +kernel
theorem dX0_kind_95 : decode cX0_kind 95 = .ok (.bipush 64, 2) := by decide +kernel
theorem dX0_kind_97 : decode cX0_kind 97 = .ok (.iload_n 1, 1) := by decide +kernel
theorem dX0_kind_98 : decode cX0_kind 98 = .ok (.irem, 1) := by decide +kernel
theorem dX0_kind_99 : decode cX0_kind 99 = .ok (.iastore, 1) := by decide +kernel
theorem dX0_kind_100 : decode cX0_kind 100 = .ok (.aload_n 0, 1) := by decide +kernel
theorem dX0_kind_101 : decode cX0_kind 101 = .ok (.dup, 1) := by decide +kernel
theorem dX0_kind_102 : decode cX0_kind 102 = .ok (.getfield 55, 3) := by decide +kernel
theorem dX0_kind_105 : decode cX0_kind 105 = .ok (.iconst 1, 1) := by decide +kernel
theorem dX0_kind_106 : decode cX0_kind 106 = .ok (.iadd, 1) := by decide +kernel
theorem dX0_kind_107 : decode cX0_kind 107 = .ok (.putfield 55, 3) := by decide +kernel
theorem dX0_kind_110 : decode cX0_kind 110 = .ok (.iload_n 3, 1) := by decide +kernel
theorem dX0_kind_111 : decode cX0_kind 111 = .ok (.ireturn, 1) := by decide +kernel
set_option maxRecDepth 20000 in
theorem ggX0_put_X0_requireKind : GoodIn wsX0_put wsX0_requireKind := goodIn_ca (goodIn_r _ [10, 11, 12, 13, 55, 56, 57, 58, 59, 60, 61, 62, 63, 64, 65, 66, 67, 68, 69, 70] (by decide +kernel) (by decide +kernel)) (goodIn_sub (fun _ h => List.mem_cons_of_mem _ (List.mem_append_right _ h)) (by decide +kernel))
set_option maxRecDepth 20000 in
theorem gX0_put_X0_requireKind : GoodIn wsX0_put (wsV RX0 64 RX0 yX0_requireKind wsX0_requireKind) := goodIn_app (goodIn_of _ (by decide +kernel)) ggX0_put_X0_requireKind
set_option maxRecDepth 20000 in
theorem ggX0_put_X0_placeFor : GoodIn wsX0_put wsX0_placeFor := goodIn_r _ [17, 18, 19, 20, 9, 21, 22, 23, 24, 25, 26, 4, 27, 28, 29, 30, 31, 32, 33, 34, 35, 55, 56, 57, 58, 59, 60, 61, 62, 63, 64, 65, 66, 67, 68, 69, 70] (by decide +kernel) (by decide +kernel)
set_option maxRecDepth 20000 in
theorem gX0_put_X0_placeFor : GoodIn wsX0_put (wsV RX0 73 RX0 yX0_placeFor wsX0_placeFor) := goodIn_app (goodIn_of _ (by decide +kernel)) ggX0_put_X0_placeFor
set_option maxRecDepth 20000 in
theorem ggX0_put_X0_addTray : GoodIn wsX0_put wsX0_addTray := goodIn_r _ [39, 4, 40, 41, 42, 43, 55, 56, 57, 58, 59, 60, 61, 62, 63, 64, 65, 66, 67, 68, 69, 70] (by decide +kernel) (by decide +kernel)
set_option maxRecDepth 20000 in
theorem gX0_put_X0_addTray : GoodIn wsX0_put (wsV RX0 79 RX0 yX0_addTray wsX0_addTray) := goodIn_app (goodIn_of _ (by decide +kernel)) ggX0_put_X0_addTray
set_option maxRecDepth 20000 in
theorem ggX0_put_X0_layIn : GoodIn wsX0_put wsX0_layIn := goodIn_r _ [47, 48, 22, 49, 50, 51, 52, 53, 9, 54, 4, 27, 55, 56, 57, 58, 59, 60, 61, 62, 63, 64, 65, 66, 67, 68, 69, 70] (by decide +kernel) (by decide +kernel)
set_option maxRecDepth 20000 in
theorem gX0_put_X0_layIn : GoodIn wsX0_put (wsV RX0 83 RX0 yX0_layIn wsX0_layIn) := goodIn_app (goodIn_of _ (by decide +kernel)) ggX0_put_X0_layIn
theorem dX0_put_0 : decode cX0_put 0 = .ok (.aload_n 0, 1) := by decide +kernel
theorem dX0_put_1 : decode cX0_put 1 = .ok (.iload_n 1, 1) := by decide +kernel
theorem dX0_put_2 : decode cX0_put 2 = .ok (.invokevirtual 64, 3) := by decide +kernel
theorem dX0_put_5 : decode cX0_put 5 = .ok (.aload_n 0, 1) := by decide +kernel
theorem dX0_put_6 : decode cX0_put 6 = .ok (.getfield 68, 3) := by decide +kernel
theorem dX0_put_9 : decode cX0_put 9 = .ok (.sipush 150, 3) := by decide +kernel
theorem dX0_put_12 : decode cX0_put 12 = .ok (.if_icmp .lt 13, 3) := by decide +kernel
theorem dX0_put_15 : decode cX0_put 15 = .ok (.new 59, 3) := by decide +kernel
theorem dX0_put_18 : decode cX0_put 18 = .ok (.dup, 1) := by decide +kernel
theorem dX0_put_19 : decode cX0_put 19 = .ok (.ldc 71, 2) := by decide +kernel
theorem dX0_put_21 : decode cX0_put 21 = .ok (.invokespecial 63, 3) := by decide +kernel
theorem dX0_put_24 : decode cX0_put 24 = .ok (.athrow, 1) := by decide +kernel
theorem dX0_put_25 : decode cX0_put 25 = .ok (.aload_n 0, 1) := by decide +kernel
theorem dX0_put_26 : decode cX0_put 26 = .ok (.iload_n 1, 1) := by decide +kernel
theorem dX0_put_27 : decode cX0_put 27 = .ok (.invokevirtual 73, 3) := by decide +kernel
theorem dX0_put_30 : decode cX0_put 30 = .ok (.istore_n 2, 1) := by decide +kernel
theorem dX0_put_31 : decode cX0_put 31 = .ok (.iload_n 2, 1) := by decide +kernel
theorem dX0_put_32 : decode cX0_put 32 = .ok (.iconst (-1), 1) := by decide +kernel
theorem dX0_put_33 : decode cX0_put 33 = .ok (.if_icmp .ne 13, 3) := by decide +kernel
theorem dX0_put_36 : decode cX0_put 36 = .ok (.new 59, 3) := by decide +kernel
theorem dX0_put_39 : decode cX0_put 39 = .ok (.dup, 1) := by decide +kernel
theorem dX0_put_40 : decode cX0_put 40 = .ok (.ldc 77, 2) := by decide +kernel
theorem dX0_put_42 : decode cX0_put 42 = .ok (.invokespecial 63, 3) := by decide +kernel
theorem dX0_put_45 : decode cX0_put 45 = .ok (.athrow, 1) := by decide +kernel
theorem dX0_put_46 : decode cX0_put 46 = .ok (.aload_n 0, 1) := by decide +kernel
theorem dX0_put_47 : decode cX0_put 47 = .ok (.getfield 25, 3) := by decide +kernel
theorem dX0_put_50 : decode cX0_put 50 = .ok (.iload_n 2, 1) := by decide +kernel
theorem dX0_put_51 : decode cX0_put 51 = .ok (.iaload, 1) := by decide +kernel
theorem dX0_put_52 : decode cX0_put 52 = .ok (.iconst (-1), 1) := by decide +kernel
theorem dX0_put_53 : decode cX0_put 53 = .ok (.if_icmp .ne 9, 3) := by decide +kernel
theorem dX0_put_56 : decode cX0_put 56 = .ok (.aload_n 0, 1) := by decide +kernel
theorem dX0_put_57 : decode cX0_put 57 = .ok (.iload_n 2, 1) := by decide +kernel
theorem dX0_put_58 : decode cX0_put 58 = .ok (.iload_n 1, 1) := by decide +kernel
theorem dX0_put_59 : decode cX0_put 59 = .ok (.invokevirtual 79, 3) := by decide +kernel
theorem dX0_put_62 : decode cX0_put 62 = .ok (.aload_n 0, 1) := by decide +kernel
theorem dX0_put_63 : decode cX0_put 63 = .ok (.getfield 68, 3) := by decide +kernel
theorem dX0_put_66 : decode cX0_put 66 = .ok (.istore_n 3, 1) := by decide +kernel
theorem dX0_put_67 : decode cX0_put 67 = .ok (.aload_n 0, 1) := by decide +kernel
theorem dX0_put_68 : decode cX0_put 68 = .ok (.getfield 37, 3) := by decide +kernel
theorem dX0_put_71 : decode cX0_put 71 = .ok (.iload_n 3, 1) := by decide +kernel
theorem dX0_put_72 : decode cX0_put 72 = .ok (.iload_n 1, 1) := by decide +kernel
theorem dX0_put_73 : decode cX0_put 73 = .ok (.iastore, 1) := by decide +kernel
theorem dX0_put_74 : decode cX0_put 74 = .ok (.aload_n 0, 1) := by decide +kernel
theorem dX0_put_75 : decode cX0_put 75 = .ok (.dup, 1) := by decide +kernel
theorem dX0_put_76 : decode cX0_put 76 = .ok (.getfield 68, 3) := by decide +kernel
theorem dX0_put_79 : decode cX0_put 79 = .ok (.iconst 1, 1) := by decide +kernel
theorem dX0_put_80 : decode cX0_put 80 = .ok (.iadd, 1) := by decide +kernel
theorem dX0_put_81 : decode cX0_put 81 = .ok (.putfield 68, 3) := by decide +kernel
theorem dX0_put_84 : decode cX0_put 84 = .ok (.aload_n 0, 1) := by decide +kernel
theorem dX0_put_85 : decode cX0_put 85 = .ok (.iload_n 3, 1) := by decide +kernel
theorem dX0_put_86 : decode cX0_put 86 = .ok (.iload_n 2, 1) := by decide +kernel
theorem dX0_put_87 : decode cX0_put 87 = .ok (.invokevirtual 83, 3) := by decide +kernel
theorem dX0_put_90 : decode cX0_put 90 = .ok (.iload_n 3, 1) := by decide +kernel
theorem dX0_put_91 : decode cX0_put 91 = .ok (.ireturn, 1) := by decide +kernel
set_option maxRecDepth 20000 in
theorem ggX0_take_X0_requireThing : GoodIn wsX0_take wsX0_requireThing := goodIn_ca (goodIn_r _ [10, 11, 12, 13, 30, 31, 32, 33, 34, 35, 36, 37, 38, 39, 40, 41, 42, 43, 44, 45] (by decide +kernel) (by decide +kernel)) (goodIn_sub (fun _ h => List.mem_cons_of_mem _ (List.mem_append_right _ h)) (by decide +kernel))
set_option maxRecDepth 20000 in
theorem gX0_take_X0_requireThing : GoodIn wsX0_take (wsV RX0 86 RX0 yX0_requireThing wsX0_requireThing) := goodIn_app (goodIn_of _ (by decide +kernel)) ggX0_take_X0_requireThing
set_option maxRecDepth 20000 in
theorem ggX0_take_X0_firstEmpty : GoodIn wsX0_take wsX0_firstEmpty := goodIn_r _ [17, 18, 5, 30, 31, 32, 33, 34, 35, 36, 37, 38, 39, 40, 41, 42, 43, 44, 45] (by decide +kernel) (by decide +kernel)
set_option maxRecDepth 20000 in
theorem gX0_take_X0_firstEmpty : GoodIn wsX0_take (wsV RX0 91 RX0 yX0_firstEmpty wsX0_firstEmpty) := goodIn_app (goodIn_of _ (by decide +kernel)) ggX0_take_X0_firstEmpty
set_option maxRecDepth 20000 in
theorem ggX0_take_X0_liftOut : GoodIn wsX0_take wsX0_liftOut := goodIn_r _ [22, 3, 23, 24, 5, 30, 31, 32, 33, 34, 35, 36, 37, 38, 39, 40, 41, 42, 43, 44, 45] (by decide +kernel) (by decide +kernel)
set_option maxRecDepth 20000 in
theorem gX0_take_X0_liftOut : GoodIn wsX0_take (wsV RX0 94 RX0 yX0_liftOut wsX0_liftOut) := goodIn_app (goodIn_of _ (by decide +kernel)) ggX0_take_X0_liftOut
set_option maxRecDepth 20000 in
theorem ggX0_take_X0_dropTray : GoodIn wsX0_take wsX0_dropTray := goodIn_r _ [28, 18, 29, 30, 31, 32, 33, 34, 35, 36, 37, 38, 39, 40, 41, 42, 43, 44, 45] (by decide +kernel) (by decide +kernel)
set_option maxRecDepth 20000 in
theorem gX0_take_X0_dropTray : GoodIn wsX0_take (wsV RX0 97 RX0 yX0_dropTray wsX0_dropTray) := goodIn_app (goodIn_of _ (by decide +kernel)) ggX0_take_X0_dropTray
theorem dX0_take_0 : decode cX0_take 0 = .ok (.aload_n 0, 1) := by decide +kernel
theorem dX0_take_1 : decode cX0_take 1 = .ok (.iload_n 1, 1) := by decide +kernel
theorem dX0_take_2 : decode cX0_take 2 = .ok (.invokevirtual 86, 3) := by decide +kernel
theorem dX0_take_5 : decode cX0_take 5 = .ok (.aload_n 0, 1) := by decide +kernel
theorem dX0_take_6 : decode cX0_take 6 = .ok (.getfield 40, 3) := by decide +kernel
theorem dX0_take_9 : decode cX0_take 9 = .ok (.iload_n 1, 1) := by decide +kernel
theorem dX0_take_10 : decode cX0_take 10 = .ok (.iaload, 1) := by decide +kernel
theorem dX0_take_11 : decode cX0_take 11 = .ok (.istore_n 2, 1) := by decide +kernel
theorem dX0_take_12 : decode cX0_take 12 = .ok (.iload_n 2, 1) := by decide +kernel
theorem dX0_take_13 : decode cX0_take 13 = .ok (.iconst (-1), 1) := by decide +kernel
theorem dX0_take_14 : decode cX0_take 14 = .ok (.if_icmp .ne 13, 3) := by decide +kernel
theorem dX0_take_17 : decode cX0_take 17 = .ok (.new 59, 3) := by decide +kernel
theorem dX0_take_20 : decode cX0_take 20 = .ok (.dup, 1) := by decide +kernel
theorem dX0_take_21 : decode cX0_take 21 = .ok (.ldc 89, 2) := by decide +kernel
theorem dX0_take_23 : decode cX0_take 23 = .ok (.invokespecial 63, 3) := by decide +kernel
theorem dX0_take_26 : decode cX0_take 26 = .ok (.athrow, 1) := by decide +kernel
theorem dX0_take_27 : decode cX0_take 27 = .ok (.aload_n 0, 1) := by decide +kernel
theorem dX0_take_28 : decode cX0_take 28 = .ok (.aload_n 0, 1) := by decide +kernel
theorem dX0_take_29 : decode cX0_take 29 = .ok (.getfield 37, 3) := by decide +kernel
theorem dX0_take_32 : decode cX0_take 32 = .ok (.iload_n 1, 1) := by decide +kernel
theorem dX0_take_33 : decode cX0_take 33 = .ok (.iaload, 1) := by decide +kernel
theorem dX0_take_34 : decode cX0_take 34 = .ok (.invokevirtual 91, 3) := by decide +kernel
theorem dX0_take_37 : decode cX0_take 37 = .ok (.iconst (-1), 1) := by decide +kernel
theorem dX0_take_38 : decode cX0_take 38 = .ok (.if_icmp .eq 7, 3) := by decide +kernel
theorem dX0_take_41 : decode cX0_take 41 = .ok (.iconst 1, 1) := by decide +kernel
theorem dX0_take_42 : decode cX0_take 42 = .ok (.goto 4, 3) := by decide +kernel
theorem dX0_take_45 : decode cX0_take 45 = .ok (.iconst 0, 1) := by decide +kernel
theorem dX0_take_46 : decode cX0_take 46 = .ok (.istore_n 3, 1) := by decide +kernel
theorem dX0_take_47 : decode cX0_take 47 = .ok (.aload_n 0, 1) := by decide +kernel
theorem dX0_take_48 : decode cX0_take 48 = .ok (.iload_n 1, 1) := by decide +kernel
theorem dX0_take_49 : decode cX0_take 49 = .ok (.invokevirtual 94, 3) := by decide +kernel
theorem dX0_take_52 : decode cX0_take 52 = .ok (.aload_n 0, 1) := by decide +kernel
theorem dX0_take_53 : decode cX0_take 53 = .ok (.getfield 31, 3) := by decide +kernel
theorem dX0_take_56 : decode cX0_take 56 = .ok (.iload_n 2, 1) := by decide +kernel
theorem dX0_take_57 : decode cX0_take 57 = .ok (.iaload, 1) := by decide +kernel
theorem dX0_take_58 : decode cX0_take 58 = .ok (.ifCond .ne 11, 3) := by decide +kernel
theorem dX0_take_61 : decode cX0_take 61 = .ok (.iload_n 3, 1) := by decide +kernel
theorem dX0_take_62 : decode cX0_take 62 = .ok (.ifCond .eq 7, 3) := by decide +kernel
theorem dX0_take_65 : decode cX0_take 65 = .ok (.iconst 1, 1) := by decide +kernel
theorem dX0_take_66 : decode cX0_take 66 = .ok (.goto 4, 3) := by decide +kernel
theorem dX0_take_69 : decode cX0_take 69 = .ok (.iconst 0, 1) := by decide +kernel
theorem dX0_take_70 : decode cX0_take 70 = .ok (.istore 4, 2) := by decide +kernel
theorem dX0_take_72 : decode cX0_take 72 = .ok (.iload 4, 2) := by decide +kernel
theorem dX0_take_74 : decode cX0_take 74 = .ok (.ifCond .eq 8, 3) := by decide +kernel
theorem dX0_take_77 : decode cX0_take 77 = .ok (.aload_n 0, 1) := by decide +kernel
theorem dX0_take_78 : decode cX0_take 78 = .ok (.iload_n 2, 1) := by decide +kernel
theorem dX0_take_79 : decode cX0_take 79 = .ok (.invokevirtual 97, 3) := by decide +kernel
theorem dX0_take_82 : decode cX0_take 82 = .ok (.iload 4, 2) := by decide +kernel
theorem dX0_take_84 : decode cX0_take 84 = .ok (.ireturn, 1) := by decide +kernel
set_option maxRecDepth 20000 in
theorem ggX0_sweep_X0_dropTray : GoodIn wsX0_sweep wsX0_dropTray := goodIn_r _ [7, 1, 8, 9, 10, 11, 12, 13, 14, 15, 16, 17, 18, 19, 20, 21, 22, 23, 24] (by decide +kernel) (by decide +kernel)
set_option maxRecDepth 20000 in
theorem gX0_sweep_X0_dropTray : GoodIn wsX0_sweep (wsV RX0 97 RX0 yX0_dropTray wsX0_dropTray) := goodIn_app (goodIn_of _ (by decide +kernel)) ggX0_sweep_X0_dropTray
theorem dX0_sweep_0 : decode cX0_sweep 0 = .ok (.iconst 0, 1) := by decide +kernel
theorem dX0_sweep_1 : decode cX0_sweep 1 = .ok (.istore_n 1, 1) := by decide +kernel
theorem dX0_sweep_2 : decode cX0_sweep 2 = .ok (.iconst 0, 1) := by decide +kernel
theorem dX0_sweep_3 : decode cX0_sweep 3 = .ok (.istore_n 2, 1) := by decide +kernel
theorem dX0_sweep_4 : decode cX0_sweep 4 = .ok (.iload_n 2, 1) := by decide +kernel
theorem dX0_sweep_5 : decode cX0_sweep 5 = .ok (.bipush 20, 2) := by decide +kernel
theorem dX0_sweep_7 : decode cX0_sweep 7 = .ok (.if_icmp .ge 36, 3) := by decide +kernel
theorem dX0_sweep_10 : decode cX0_sweep 10 = .ok (.aload_n 0, 1) := by decide +kernel
theorem dX0_sweep_11 : decode cX0_sweep 11 = .ok (.getfield 25, 3) := by decide +kernel
theorem dX0_sweep_14 : decode cX0_sweep 14 = .ok (.iload_n 2, 1) := by decide +kernel
theorem dX0_sweep_15 : decode cX0_sweep 15 = .ok (.iaload, 1) := by decide +kernel
theorem dX0_sweep_16 : decode cX0_sweep 16 = .ok (.iconst (-1), 1) := by decide +kernel
theorem dX0_sweep_17 : decode cX0_sweep 17 = .ok (.if_icmp .eq 20, 3) := by decide +kernel
theorem dX0_sweep_20 : decode cX0_sweep 20 = .ok (.aload_n 0, 1) := by decide +kernel
theorem dX0_sweep_21 : decode cX0_sweep 21 = .ok (.getfield 31, 3) := by decide +kernel
theorem dX0_sweep_24 : decode cX0_sweep 24 = .ok (.iload_n 2, 1) := by decide +kernel
theorem dX0_sweep_25 : decode cX0_sweep 25 = .ok (.iaload, 1) := by decide +kernel
theorem dX0_sweep_26 : decode cX0_sweep 26 = .ok (.ifCond .ne 11, 3) := by decide +kernel
theorem dX0_sweep_29 : decode cX0_sweep 29 = .ok (.aload_n 0, 1) := by decide +kernel
theorem dX0_sweep_30 : decode cX0_sweep 30 = .ok (.iload_n 2, 1) := by decide +kernel
theorem dX0_sweep_31 : decode cX0_sweep 31 = .ok (.invokevirtual 97, 3) := by decide +kernel
theorem dX0_sweep_34 : decode cX0_sweep 34 = .ok (.iinc 1 1, 3) := by decide +kernel
theorem dX0_sweep_37 : decode cX0_sweep 37 = .ok (.iinc 2 1, 3) := by decide +kernel
theorem dX0_sweep_40 : decode cX0_sweep 40 = .ok (.goto (-36), 3) := by decide +kernel
theorem dX0_sweep_43 : decode cX0_sweep 43 = .ok (.iload_n 1, 1) := by decide +kernel
theorem dX0_sweep_44 : decode cX0_sweep 44 = .ok (.ireturn, 1) := by decide +kernel
set_option maxRecDepth 20000 in
theorem ggX0_pack_X0_requireKind : GoodIn wsX0_pack wsX0_requireKind := goodIn_ca (goodIn_r _ [6, 7, 8, 9, 44, 45, 46, 47, 48, 49, 50, 51, 52, 53, 54, 55, 56, 57, 58, 59] (by decide +kernel) (by decide +kernel)) (goodIn_sub (fun _ h => List.mem_cons_of_mem _ (List.mem_append_right _ h)) (by decide +kernel))
set_option maxRecDepth 20000 in
theorem gX0_pack_X0_requireKind : GoodIn wsX0_pack (wsV RX0 64 RX0 yX0_requireKind wsX0_requireKind) := goodIn_app (goodIn_of _ (by decide +kernel)) ggX0_pack_X0_requireKind
set_option maxRecDepth 20000 in
theorem ggX0_pack_X0_leastPartly : GoodIn wsX0_pack wsX0_leastPartly := goodIn_r _ [13, 14, 15, 16, 17, 5, 18, 19, 20, 44, 45, 46, 47, 48, 49, 50, 51, 52, 53, 54, 55, 56, 57, 58, 59] (by decide +kernel) (by decide +kernel)
set_option maxRecDepth 20000 in
theorem gX0_pack_X0_leastPartly : GoodIn wsX0_pack (wsV RX0 100 RX0 yX0_leastPartly wsX0_leastPartly) := goodIn_app (goodIn_of _ (by decide +kernel)) ggX0_pack_X0_leastPartly
set_option maxRecDepth 20000 in
theorem ggX0_pack_X0_mostPartly : GoodIn wsX0_pack wsX0_mostPartly := goodIn_r _ [24, 14, 15, 16, 17, 5, 18, 19, 20, 44, 45, 46, 47, 48, 49, 50, 51, 52, 53, 54, 55, 56, 57, 58, 59] (by decide +kernel) (by decide +kernel)
set_option maxRecDepth 20000 in
theorem gX0_pack_X0_mostPartly : GoodIn wsX0_pack (wsV RX0 103 RX0 yX0_mostPartly wsX0_mostPartly) := goodIn_app (goodIn_of _ (by decide +kernel)) ggX0_pack_X0_mostPartly
set_option maxRecDepth 20000 in
theorem ggX0_pack_X0_moveLast : GoodIn wsX0_pack wsX0_moveLast := goodIn_r _ [28, 29, 30, 31, 32, 5, 33, 19, 20, 34, 35, 36, 37, 38, 39, 14, 40, 41, 42, 43, 44, 45, 46, 47, 48, 49, 50, 51, 52, 53, 54, 55, 56, 57, 58, 59] (by decide +kernel) (by decide +kernel)
set_option maxRecDepth 20000 in
theorem gX0_pack_X0_moveLast : GoodIn wsX0_pack (wsV RX0 106 RX0 yX0_moveLast wsX0_moveLast) := goodIn_app (goodIn_of _ (by decide +kernel)) ggX0_pack_X0_moveLast
theorem dX0_pack_0 : decode cX0_pack 0 = .ok (.aload_n 0, 1) := by decide +kernel
theorem dX0_pack_1 : decode cX0_pack 1 = .ok (.iload_n 1, 1) := by decide +kernel
theorem dX0_pack_2 : decode cX0_pack 2 = .ok (.invokevirtual 64, 3) := by decide +kernel
theorem dX0_pack_5 : decode cX0_pack 5 = .ok (.iconst 0, 1) := by decide +kernel
theorem dX0_pack_6 : decode cX0_pack 6 = .ok (.istore_n 2, 1) := by decide +kernel
theorem dX0_pack_7 : decode cX0_pack 7 = .ok (.iload_n 2, 1) := by decide +kernel
theorem dX0_pack_8 : decode cX0_pack 8 = .ok (.sipush 150, 3) := by decide +kernel
theorem dX0_pack_11 : decode cX0_pack 11 = .ok (.if_icmp .ge 49, 3) := by decide +kernel
theorem dX0_pack_14 : decode cX0_pack 14 = .ok (.aload_n 0, 1) := by decide +kernel
theorem dX0_pack_15 : decode cX0_pack 15 = .ok (.iload_n 1, 1) := by decide +kernel
theorem dX0_pack_16 : decode cX0_pack 16 = .ok (.invokevirtual 100, 3) := by decide +kernel
theorem dX0_pack_19 : decode cX0_pack 19 = .ok (.istore_n 3, 1) := by decide +kernel
theorem dX0_pack_20 : decode cX0_pack 20 = .ok (.aload_n 0, 1) := by decide +kernel
theorem dX0_pack_21 : decode cX0_pack 21 = .ok (.iload_n 1, 1) := by decide +kernel
theorem dX0_pack_22 : decode cX0_pack 22 = .ok (.invokevirtual 103, 3) := by decide +kernel
theorem dX0_pack_25 : decode cX0_pack 25 = .ok (.istore 4, 2) := by decide +kernel
theorem dX0_pack_27 : decode cX0_pack 27 = .ok (.iload_n 3, 1) := by decide +kernel
theorem dX0_pack_28 : decode cX0_pack 28 = .ok (.iconst (-1), 1) := by decide +kernel
theorem dX0_pack_29 : decode cX0_pack 29 = .ok (.if_icmp .eq 31, 3) := by decide +kernel
theorem dX0_pack_32 : decode cX0_pack 32 = .ok (.iload 4, 2) := by decide +kernel
theorem dX0_pack_34 : decode cX0_pack 34 = .ok (.iconst (-1), 1) := by decide +kernel
theorem dX0_pack_35 : decode cX0_pack 35 = .ok (.if_icmp .eq 25, 3) := by decide +kernel
theorem dX0_pack_38 : decode cX0_pack 38 = .ok (.iload_n 3, 1) := by decide +kernel
theorem dX0_pack_39 : decode cX0_pack 39 = .ok (.iload 4, 2) := by decide +kernel
theorem dX0_pack_41 : decode cX0_pack 41 = .ok (.if_icmp .ne 6, 3) := by decide +kernel
theorem dX0_pack_44 : decode cX0_pack 44 = .ok (.goto 16, 3) := by decide +kernel
theorem dX0_pack_47 : decode cX0_pack 47 = .ok (.aload_n 0, 1) := by decide +kernel
theorem dX0_pack_48 : decode cX0_pack 48 = .ok (.iload_n 3, 1) := by decide +kernel
theorem dX0_pack_49 : decode cX0_pack 49 = .ok (.iload 4, 2) := by decide +kernel
theorem dX0_pack_51 : decode cX0_pack 51 = .ok (.invokevirtual 106, 3) := by decide +kernel
theorem dX0_pack_54 : decode cX0_pack 54 = .ok (.iinc 2 1, 3) := by decide +kernel
theorem dX0_pack_57 : decode cX0_pack 57 = .ok (.goto (-50), 3) := by decide +kernel
theorem dX0_pack_60 : decode cX0_pack 60 = .ok (.aload_n 0, 1) := by decide +kernel
theorem dX0_pack_61 : decode cX0_pack 61 = .ok (.dup, 1) := by decide +kernel
theorem dX0_pack_62 : decode cX0_pack 62 = .ok (.getfield 109, 3) := by decide +kernel
theorem dX0_pack_65 : decode cX0_pack 65 = .ok (.iload_n 2, 1) := by decide +kernel
theorem dX0_pack_66 : decode cX0_pack 66 = .ok (.iadd, 1) := by decide +kernel
theorem dX0_pack_67 : decode cX0_pack 67 = .ok (.putfield 109, 3) := by decide +kernel
theorem dX0_pack_70 : decode cX0_pack 70 = .ok (.iload_n 2, 1) := by decide +kernel
theorem dX0_pack_71 : decode cX0_pack 71 = .ok (.ireturn, 1) := by decide +kernel
set_option maxRecDepth 20000 in
theorem ggX0_told_X0_requireThing : GoodIn wsX0_told wsX0_requireThing := goodIn_ca (goodIn_r _ [10, 11, 12, 13, 18, 19, 20, 21, 22, 23, 24, 25, 26, 27, 28, 29, 30, 31, 32, 33] (by decide +kernel) (by decide +kernel)) (goodIn_sub (fun _ h => List.mem_cons_of_mem _ (List.mem_append_right _ h)) (by decide +kernel))
set_option maxRecDepth 20000 in
theorem gX0_told_X0_requireThing : GoodIn wsX0_told (wsV RX0 86 RX0 yX0_requireThing wsX0_requireThing) := goodIn_app (goodIn_of _ (by decide +kernel)) ggX0_told_X0_requireThing
set_option maxRecDepth 20000 in
theorem ggX0_told_X0_requireWhat : GoodIn wsX0_told wsX0_requireWhat := goodIn_ca (goodIn_r _ [17, 11, 12] (by decide +kernel) (by decide +kernel)) (goodIn_sub (fun _ h => List.mem_cons_of_mem _ (List.mem_append_right _ h)) (by decide +kernel))
set_option maxRecDepth 20000 in
theorem gX0_told_X0_requireWhat : GoodIn wsX0_told (wsV RX0 112 RX0 yX0_requireWhat wsX0_requireWhat) := goodIn_app (goodIn_of _ (by decide +kernel)) ggX0_told_X0_requireWhat
theorem dX0_told_0 : decode cX0_told 0 = .ok (.aload_n 0, 1) := by decide +kernel
theorem dX0_told_1 : decode cX0_told 1 = .ok (.iload_n 1, 1) := by decide +kernel
theorem dX0_told_2 : decode cX0_told 2 = .ok (.invokevirtual 86, 3) := by decide +kernel
theorem dX0_told_5 : decode cX0_told 5 = .ok (.aload_n 0, 1) := by decide +kernel
theorem dX0_told_6 : decode cX0_told 6 = .ok (.iload_n 2, 1) := by decide +kernel
theorem dX0_told_7 : decode cX0_told 7 = .ok (.iconst 4, 1) := by decide +kernel
theorem dX0_told_8 : decode cX0_told 8 = .ok (.invokevirtual 112, 3) := by decide +kernel
theorem dX0_told_11 : decode cX0_told 11 = .ok (.iload_n 2, 1) := by decide +kernel
theorem dX0_told_12 : decode cX0_told 12 = .ok (.ifCond .ne 10, 3) := by decide +kernel
theorem dX0_told_15 : decode cX0_told 15 = .ok (.aload_n 0, 1) := by decide +kernel
theorem dX0_told_16 : decode cX0_told 16 = .ok (.getfield 37, 3) := by decide +kernel
theorem dX0_told_19 : decode cX0_told 19 = .ok (.iload_n 1, 1) := by decide +kernel
theorem dX0_told_20 : decode cX0_told 20 = .ok (.iaload, 1) := by decide +kernel
theorem dX0_told_21 : decode cX0_told 21 = .ok (.ireturn, 1) := by decide +kernel
theorem dX0_told_22 : decode cX0_told 22 = .ok (.aload_n 0, 1) := by decide +kernel
theorem dX0_told_23 : decode cX0_told 23 = .ok (.getfield 40, 3) := by decide +kernel
theorem dX0_told_26 : decode cX0_told 26 = .ok (.iload_n 1, 1) := by decide +kernel
theorem dX0_told_27 : decode cX0_told 27 = .ok (.iaload, 1) := by decide +kernel
theorem dX0_told_28 : decode cX0_told 28 = .ok (.istore_n 3, 1) := by decide +kernel
theorem dX0_told_29 : decode cX0_told 29 = .ok (.iload_n 3, 1) := by decide +kernel
theorem dX0_told_30 : decode cX0_told 30 = .ok (.iconst (-1), 1) := by decide +kernel
theorem dX0_told_31 : decode cX0_told 31 = .ok (.if_icmp .ne 5, 3) := by decide +kernel
theorem dX0_told_34 : decode cX0_told 34 = .ok (.iconst (-1), 1) := by decide +kernel
theorem dX0_told_35 : decode cX0_told 35 = .ok (.ireturn, 1) := by decide +kernel
theorem dX0_told_36 : decode cX0_told 36 = .ok (.aload_n 0, 1) := by decide +kernel
theorem dX0_told_37 : decode cX0_told 37 = .ok (.getfield 43, 3) := by decide +kernel
theorem dX0_told_40 : decode cX0_told 40 = .ok (.iload_n 1, 1) := by decide +kernel
theorem dX0_told_41 : decode cX0_told 41 = .ok (.iaload, 1) := by decide +kernel
theorem dX0_told_42 : decode cX0_told 42 = .ok (.istore 4, 2) := by decide +kernel
theorem dX0_told_44 : decode cX0_told 44 = .ok (.aload_n 0, 1) := by decide +kernel
theorem dX0_told_45 : decode cX0_told 45 = .ok (.getfield 28, 3) := by decide +kernel
theorem dX0_told_48 : decode cX0_told 48 = .ok (.iload_n 3, 1) := by decide +kernel
theorem dX0_told_49 : decode cX0_told 49 = .ok (.iaload, 1) := by decide +kernel
theorem dX0_told_50 : decode cX0_told 50 = .ok (.iload 4, 2) := by decide +kernel
theorem dX0_told_52 : decode cX0_told 52 = .ok (.aload_n 0, 1) := by decide +kernel
theorem dX0_told_53 : decode cX0_told 53 = .ok (.getfield 9, 3) := by decide +kernel
theorem dX0_told_56 : decode cX0_told 56 = .ok (.aload_n 0, 1) := by decide +kernel
theorem dX0_told_57 : decode cX0_told 57 = .ok (.getfield 37, 3) := by decide +kernel
theorem dX0_told_60 : decode cX0_told 60 = .ok (.iload_n 1, 1) := by decide +kernel
theorem dX0_told_61 : decode cX0_told 61 = .ok (.iaload, 1) := by decide +kernel
theorem dX0_told_62 : decode cX0_told 62 = .ok (.iaload, 1) := by decide +kernel
theorem dX0_told_63 : decode cX0_told 63 = .ok (.imul, 1) := by decide +kernel
theorem dX0_told_64 : decode cX0_told 64 = .ok (.iadd, 1) := by decide +kernel
theorem dX0_told_65 : decode cX0_told 65 = .ok (.istore 5, 2) := by decide +kernel
theorem dX0_told_67 : decode cX0_told 67 = .ok (.iload_n 2, 1) := by decide +kernel
theorem dX0_told_68 : decode cX0_told 68 = .ok (.tableswitch 36 1 3 #[28, 30, 33], 28) := by decide +kernel
theorem dX0_told_96 : decode cX0_told 96 = .ok (.iload_n 3, 1) := by decide +kernel
theorem dX0_told_97 : decode cX0_told 97 = .ok (.ireturn, 1) := by decide +kernel
theorem dX0_told_98 : decode cX0_told 98 = .ok (.iload 4, 2) := by decide +kernel
theorem dX0_told_100 : decode cX0_told 100 = .ok (.ireturn, 1) := by decide +kernel
theorem dX0_told_101 : decode cX0_told 101 = .ok (.iload 5, 2) := by decide +kernel
theorem dX0_told_103 : decode cX0_told 103 = .ok (.ireturn, 1) := by decide +kernel
theorem dX0_told_104 : decode cX0_told 104 = .ok (.bipush 64, 2) := by decide +kernel
theorem dX0_told_106 : decode cX0_told 106 = .ok (.iload_n 3, 1) := by decide +kernel
theorem dX0_told_107 : decode cX0_told 107 = .ok (.imul, 1) := by decide +kernel
theorem dX0_told_108 : decode cX0_told 108 = .ok (.iload 5, 2) := by decide +kernel
theorem dX0_told_110 : decode cX0_told 110 = .ok (.iadd, 1) := by decide +kernel
theorem dX0_told_111 : decode cX0_told 111 = .ok (.ireturn, 1) := by decide +kernel
set_option maxRecDepth 20000 in
theorem ggX0_tray_X0_requirePlace : GoodIn wsX0_tray wsX0_requirePlace := goodIn_ca (goodIn_r _ [10, 11, 12] (by decide +kernel) (by decide +kernel)) (goodIn_sub (fun _ h => List.mem_cons_of_mem _ (List.mem_append_right _ h)) (by decide +kernel))
set_option maxRecDepth 20000 in
theorem gX0_tray_X0_requirePlace : GoodIn wsX0_tray (wsV RX0 115 RX0 yX0_requirePlace wsX0_requirePlace) := goodIn_app (goodIn_of _ (by decide +kernel)) ggX0_tray_X0_requirePlace
set_option maxRecDepth 20000 in
theorem ggX0_tray_X0_requireWhat : GoodIn wsX0_tray wsX0_requireWhat := goodIn_ca (goodIn_r _ [16, 11, 12] (by decide +kernel) (by decide +kernel)) (goodIn_sub (fun _ h => List.mem_cons_of_mem _ (List.mem_append_right _ h)) (by decide +kernel))
set_option maxRecDepth 20000 in
theorem gX0_tray_X0_requireWhat : GoodIn wsX0_tray (wsV RX0 112 RX0 yX0_requireWhat wsX0_requireWhat) := goodIn_app (goodIn_of _ (by decide +kernel)) ggX0_tray_X0_requireWhat
theorem dX0_tray_0 : decode cX0_tray 0 = .ok (.aload_n 0, 1) := by decide +kernel
theorem dX0_tray_1 : decode cX0_tray 1 = .ok (.iload_n 1, 1) := by decide +kernel
theorem dX0_tray_2 : decode cX0_tray 2 = .ok (.invokevirtual 115, 3) := by decide +kernel
theorem dX0_tray_5 : decode cX0_tray 5 = .ok (.aload_n 0, 1) := by decide +kernel
theorem dX0_tray_6 : decode cX0_tray 6 = .ok (.iload_n 2, 1) := by decide +kernel
theorem dX0_tray_7 : decode cX0_tray 7 = .ok (.iconst 4, 1) := by decide +kernel
theorem dX0_tray_8 : decode cX0_tray 8 = .ok (.invokevirtual 112, 3) := by decide +kernel
theorem dX0_tray_11 : decode cX0_tray 11 = .ok (.aload_n 0, 1) := by decide +kernel
theorem dX0_tray_12 : decode cX0_tray 12 = .ok (.getfield 25, 3) := by decide +kernel
theorem dX0_tray_15 : decode cX0_tray 15 = .ok (.iload_n 1, 1) := by decide +kernel
theorem dX0_tray_16 : decode cX0_tray 16 = .ok (.iaload, 1) := by decide +kernel
theorem dX0_tray_17 : decode cX0_tray 17 = .ok (.istore_n 3, 1) := by decide +kernel
theorem dX0_tray_18 : decode cX0_tray 18 = .ok (.iload_n 3, 1) := by decide +kernel
theorem dX0_tray_19 : decode cX0_tray 19 = .ok (.iconst (-1), 1) := by decide +kernel
theorem dX0_tray_20 : decode cX0_tray 20 = .ok (.if_icmp .ne 5, 3) := by decide +kernel
theorem dX0_tray_23 : decode cX0_tray 23 = .ok (.iconst (-1), 1) := by decide +kernel
theorem dX0_tray_24 : decode cX0_tray 24 = .ok (.ireturn, 1) := by decide +kernel
theorem dX0_tray_25 : decode cX0_tray 25 = .ok (.iload_n 2, 1) := by decide +kernel
theorem dX0_tray_26 : decode cX0_tray 26 = .ok (.tableswitch 53 0 3 #[30, 32, 39, 46], 30) := by decide +kernel
theorem dX0_tray_56 : decode cX0_tray 56 = .ok (.iload_n 3, 1) := by decide +kernel
theorem dX0_tray_57 : decode cX0_tray 57 = .ok (.ireturn, 1) := by decide +kernel
theorem dX0_tray_58 : decode cX0_tray 58 = .ok (.aload_n 0, 1) := by decide +kernel
theorem dX0_tray_59 : decode cX0_tray 59 = .ok (.getfield 28, 3) := by decide +kernel
theorem dX0_tray_62 : decode cX0_tray 62 = .ok (.iload_n 1, 1) := by decide +kernel
theorem dX0_tray_63 : decode cX0_tray 63 = .ok (.iaload, 1) := by decide +kernel
theorem dX0_tray_64 : decode cX0_tray 64 = .ok (.ireturn, 1) := by decide +kernel
theorem dX0_tray_65 : decode cX0_tray 65 = .ok (.aload_n 0, 1) := by decide +kernel
theorem dX0_tray_66 : decode cX0_tray 66 = .ok (.getfield 16, 3) := by decide +kernel
theorem dX0_tray_69 : decode cX0_tray 69 = .ok (.iload_n 3, 1) := by decide +kernel
theorem dX0_tray_70 : decode cX0_tray 70 = .ok (.iaload, 1) := by decide +kernel
theorem dX0_tray_71 : decode cX0_tray 71 = .ok (.ireturn, 1) := by decide +kernel
theorem dX0_tray_72 : decode cX0_tray 72 = .ok (.aload_n 0, 1) := by decide +kernel
theorem dX0_tray_73 : decode cX0_tray 73 = .ok (.getfield 31, 3) := by decide +kernel
theorem dX0_tray_76 : decode cX0_tray 76 = .ok (.iload_n 1, 1) := by decide +kernel
theorem dX0_tray_77 : decode cX0_tray 77 = .ok (.iaload, 1) := by decide +kernel
theorem dX0_tray_78 : decode cX0_tray 78 = .ok (.ireturn, 1) := by decide +kernel
theorem dX0_tray_79 : decode cX0_tray 79 = .ok (.bipush 64, 2) := by decide +kernel
theorem dX0_tray_81 : decode cX0_tray 81 = .ok (.aload_n 0, 1) := by decide +kernel
theorem dX0_tray_82 : decode cX0_tray 82 = .ok (.getfield 9, 3) := by decide +kernel
theorem dX0_tray_85 : decode cX0_tray 85 = .ok (.iload_n 3, 1) := by decide +kernel
theorem dX0_tray_86 : decode cX0_tray 86 = .ok (.iaload, 1) := by decide +kernel
theorem dX0_tray_87 : decode cX0_tray 87 = .ok (.aload_n 0, 1) := by decide +kernel
theorem dX0_tray_88 : decode cX0_tray 88 = .ok (.getfield 31, 3) := by decide +kernel
theorem dX0_tray_91 : decode cX0_tray 91 = .ok (.iload_n 1, 1) := by decide +kernel
theorem dX0_tray_92 : decode cX0_tray 92 = .ok (.iaload, 1) := by decide +kernel
theorem dX0_tray_93 : decode cX0_tray 93 = .ok (.imul, 1) := by decide +kernel
theorem dX0_tray_94 : decode cX0_tray 94 = .ok (.isub, 1) := by decide +kernel
theorem dX0_tray_95 : decode cX0_tray 95 = .ok (.ireturn, 1) := by decide +kernel
set_option maxRecDepth 20000 in
theorem ggX0_cell_X0_requirePlace : GoodIn wsX0_cell wsX0_requirePlace := goodIn_ca (goodIn_r _ [8, 1, 2] (by decide +kernel) (by decide +kernel)) (goodIn_sub (fun _ h => List.mem_cons_of_mem _ (List.mem_append_right _ h)) (by decide +kernel))
set_option maxRecDepth 20000 in
theorem gX0_cell_X0_requirePlace : GoodIn wsX0_cell (wsV RX0 115 RX0 yX0_requirePlace wsX0_requirePlace) := goodIn_app (goodIn_of _ (by decide +kernel)) ggX0_cell_X0_requirePlace
set_option maxRecDepth 20000 in
theorem ggX0_cell_X0_cellsAt : GoodIn wsX0_cell wsX0_cellsAt := goodIn_r _ [12, 13, 14, 15, 16, 17, 18, 19, 20, 21, 22, 23, 24, 25, 26, 27, 28, 29, 30] (by decide +kernel) (by decide +kernel)
set_option maxRecDepth 20000 in
theorem gX0_cell_X0_cellsAt : GoodIn wsX0_cell (wsV RX0 118 RX0 yX0_cellsAt wsX0_cellsAt) := goodIn_app (goodIn_of _ (by decide +kernel)) ggX0_cell_X0_cellsAt
theorem dX0_cell_0 : decode cX0_cell 0 = .ok (.aload_n 0, 1) := by decide +kernel
theorem dX0_cell_1 : decode cX0_cell 1 = .ok (.iload_n 1, 1) := by decide +kernel
theorem dX0_cell_2 : decode cX0_cell 2 = .ok (.invokevirtual 115, 3) := by decide +kernel
theorem dX0_cell_5 : decode cX0_cell 5 = .ok (.iload_n 2, 1) := by decide +kernel
theorem dX0_cell_6 : decode cX0_cell 6 = .ok (.ifCond .lt 12, 3) := by decide +kernel
theorem dX0_cell_9 : decode cX0_cell 9 = .ok (.iload_n 2, 1) := by decide +kernel
theorem dX0_cell_10 : decode cX0_cell 10 = .ok (.aload_n 0, 1) := by decide +kernel
theorem dX0_cell_11 : decode cX0_cell 11 = .ok (.iload_n 1, 1) := by decide +kernel
theorem dX0_cell_12 : decode cX0_cell 12 = .ok (.invokevirtual 118, 3) := by decide +kernel
theorem dX0_cell_15 : decode cX0_cell 15 = .ok (.if_icmp .lt 13, 3) := by decide +kernel
theorem dX0_cell_18 : decode cX0_cell 18 = .ok (.new 121, 3) := by decide +kernel
theorem dX0_cell_21 : decode cX0_cell 21 = .ok (.dup, 1) := by decide +kernel
theorem dX0_cell_22 : decode cX0_cell 22 = .ok (.ldc 123, 2) := by decide +kernel
theorem dX0_cell_24 : decode cX0_cell 24 = .ok (.invokespecial 125, 3) := by decide +kernel
theorem dX0_cell_27 : decode cX0_cell 27 = .ok (.athrow, 1) := by decide +kernel
theorem dX0_cell_28 : decode cX0_cell 28 = .ok (.aload_n 0, 1) := by decide +kernel
theorem dX0_cell_29 : decode cX0_cell 29 = .ok (.getfield 34, 3) := by decide +kernel
theorem dX0_cell_32 : decode cX0_cell 32 = .ok (.iload_n 1, 1) := by decide +kernel
theorem dX0_cell_33 : decode cX0_cell 33 = .ok (.bipush 64, 2) := by decide +kernel
theorem dX0_cell_35 : decode cX0_cell 35 = .ok (.imul, 1) := by decide +kernel
theorem dX0_cell_36 : decode cX0_cell 36 = .ok (.iload_n 2, 1) := by decide +kernel
theorem dX0_cell_37 : decode cX0_cell 37 = .ok (.iadd, 1) := by decide +kernel
theorem dX0_cell_38 : decode cX0_cell 38 = .ok (.iaload, 1) := by decide +kernel
theorem dX0_cell_39 : decode cX0_cell 39 = .ok (.ireturn, 1) := by decide +kernel
set_option maxRecDepth 20000 in
theorem ggX0_about_X0_requireKind : GoodIn wsX0_about wsX0_requireKind := goodIn_ca (goodIn_r _ [9, 10, 11, 12, 35, 36, 37, 38, 39, 40, 41, 42, 43, 44, 45, 46, 47, 48, 49, 50] (by decide +kernel) (by decide +kernel)) (goodIn_sub (fun _ h => List.mem_cons_of_mem _ (List.mem_append_right _ h)) (by decide +kernel))
set_option maxRecDepth 20000 in
theorem gX0_about_X0_requireKind : GoodIn wsX0_about (wsV RX0 64 RX0 yX0_requireKind wsX0_requireKind) := goodIn_app (goodIn_of _ (by decide +kernel)) ggX0_about_X0_requireKind
set_option maxRecDepth 20000 in
theorem ggX0_about_X0_requireWhat : GoodIn wsX0_about wsX0_requireWhat := goodIn_ca (goodIn_r _ [16, 10, 11] (by decide +kernel) (by decide +kernel)) (goodIn_sub (fun _ h => List.mem_cons_of_mem _ (List.mem_append_right _ h)) (by decide +kernel))
set_option maxRecDepth 20000 in
theorem gX0_about_X0_requireWhat : GoodIn wsX0_about (wsV RX0 112 RX0 yX0_requireWhat wsX0_requireWhat) := goodIn_app (goodIn_of _ (by decide +kernel)) ggX0_about_X0_requireWhat
set_option maxRecDepth 20000 in
theorem ggX0_about_X0_traysOf : GoodIn wsX0_about wsX0_traysOf := goodIn_r _ [20, 21, 35, 36, 37, 38, 39, 40, 41, 42, 43, 44, 45, 46, 47, 48, 49, 50] (by decide +kernel) (by decide +kernel)
set_option maxRecDepth 20000 in
theorem gX0_about_X0_traysOf : GoodIn wsX0_about (wsV RX0 126 RX0 yX0_traysOf wsX0_traysOf) := goodIn_app (goodIn_of _ (by decide +kernel)) ggX0_about_X0_traysOf
set_option maxRecDepth 20000 in
theorem ggX0_about_X0_traysHolding : GoodIn wsX0_about wsX0_traysHolding := goodIn_r _ [25, 21, 26, 35, 36, 37, 38, 39, 40, 41, 42, 43, 44, 45, 46, 47, 48, 49, 50] (by decide +kernel) (by decide +kernel)
set_option maxRecDepth 20000 in
theorem gX0_about_X0_traysHolding : GoodIn wsX0_about (wsV RX0 129 RX0 yX0_traysHolding wsX0_traysHolding) := goodIn_app (goodIn_of _ (by decide +kernel)) ggX0_about_X0_traysHolding
set_option maxRecDepth 20000 in
theorem ggX0_about_X0_thingsOf : GoodIn wsX0_about wsX0_thingsOf := goodIn_r _ [30, 21, 26, 35, 36, 37, 38, 39, 40, 41, 42, 43, 44, 45, 46, 47, 48, 49, 50] (by decide +kernel) (by decide +kernel)
set_option maxRecDepth 20000 in
theorem gX0_about_X0_thingsOf : GoodIn wsX0_about (wsV RX0 133 RX0 yX0_thingsOf wsX0_thingsOf) := goodIn_app (goodIn_of _ (by decide +kernel)) ggX0_about_X0_thingsOf
set_option maxRecDepth 20000 in
theorem ggX0_about_X0_freeCellsOf : GoodIn wsX0_about wsX0_freeCellsOf := goodIn_r _ [34, 3, 17, 18, 19, 8, 20, 21, 27, 28, 29, 30, 26, 35, 36, 37, 38, 39, 40, 41, 42, 43, 44, 45, 46, 47, 48, 49, 50] (by decide +kernel) (by decide +kernel)
set_option maxRecDepth 20000 in
theorem gX0_about_X0_freeCellsOf : GoodIn wsX0_about (wsV RX0 136 RX0 yX0_freeCellsOf wsX0_freeCellsOf) := goodIn_app (goodIn_of _ (by decide +kernel)) ggX0_about_X0_freeCellsOf
theorem dX0_about_0 : decode cX0_about 0 = .ok (.aload_n 0, 1) := by decide +kernel
theorem dX0_about_1 : decode cX0_about 1 = .ok (.iload_n 1, 1) := by decide +kernel
theorem dX0_about_2 : decode cX0_about 2 = .ok (.invokevirtual 64, 3) := by decide +kernel
theorem dX0_about_5 : decode cX0_about 5 = .ok (.aload_n 0, 1) := by decide +kernel
theorem dX0_about_6 : decode cX0_about 6 = .ok (.iload_n 2, 1) := by decide +kernel
theorem dX0_about_7 : decode cX0_about 7 = .ok (.bipush 7, 2) := by decide +kernel
theorem dX0_about_9 : decode cX0_about 9 = .ok (.invokevirtual 112, 3) := by decide +kernel
theorem dX0_about_12 : decode cX0_about 12 = .ok (.iload_n 2, 1) := by decide +kernel
theorem dX0_about_13 : decode cX0_about 13 = .ok (.tableswitch 94 0 6 #[43, 50, 57, 63, 70, 82, 88], 43) := by decide +kernel
theorem dX0_about_56 : decode cX0_about 56 = .ok (.aload_n 0, 1) := by decide +kernel
theorem dX0_about_57 : decode cX0_about 57 = .ok (.getfield 9, 3) := by decide +kernel
theorem dX0_about_60 : decode cX0_about 60 = .ok (.iload_n 1, 1) := by decide +kernel
theorem dX0_about_61 : decode cX0_about 61 = .ok (.iaload, 1) := by decide +kernel
theorem dX0_about_62 : decode cX0_about 62 = .ok (.ireturn, 1) := by decide +kernel
theorem dX0_about_63 : decode cX0_about 63 = .ok (.aload_n 0, 1) := by decide +kernel
theorem dX0_about_64 : decode cX0_about 64 = .ok (.getfield 13, 3) := by decide +kernel
theorem dX0_about_67 : decode cX0_about 67 = .ok (.iload_n 1, 1) := by decide +kernel
theorem dX0_about_68 : decode cX0_about 68 = .ok (.iaload, 1) := by decide +kernel
theorem dX0_about_69 : decode cX0_about 69 = .ok (.ireturn, 1) := by decide +kernel
theorem dX0_about_70 : decode cX0_about 70 = .ok (.aload_n 0, 1) := by decide +kernel
theorem dX0_about_71 : decode cX0_about 71 = .ok (.iload_n 1, 1) := by decide +kernel
theorem dX0_about_72 : decode cX0_about 72 = .ok (.invokevirtual 126, 3) := by decide +kernel
theorem dX0_about_75 : decode cX0_about 75 = .ok (.ireturn, 1) := by decide +kernel
theorem dX0_about_76 : decode cX0_about 76 = .ok (.aload_n 0, 1) := by decide +kernel
theorem dX0_about_77 : decode cX0_about 77 = .ok (.iload_n 1, 1) := by decide +kernel
theorem dX0_about_78 : decode cX0_about 78 = .ok (.iconst 0, 1) := by decide +kernel
theorem dX0_about_79 : decode cX0_about 79 = .ok (.invokevirtual 129, 3) := by decide +kernel
theorem dX0_about_82 : decode cX0_about 82 = .ok (.ireturn, 1) := by decide +kernel
theorem dX0_about_83 : decode cX0_about 83 = .ok (.aload_n 0, 1) := by decide +kernel
theorem dX0_about_84 : decode cX0_about 84 = .ok (.iload_n 1, 1) := by decide +kernel
theorem dX0_about_85 : decode cX0_about 85 = .ok (.aload_n 0, 1) := by decide +kernel
theorem dX0_about_86 : decode cX0_about 86 = .ok (.getfield 16, 3) := by decide +kernel
theorem dX0_about_89 : decode cX0_about 89 = .ok (.iload_n 1, 1) := by decide +kernel
theorem dX0_about_90 : decode cX0_about 90 = .ok (.iaload, 1) := by decide +kernel
theorem dX0_about_91 : decode cX0_about 91 = .ok (.invokevirtual 129, 3) := by decide +kernel
theorem dX0_about_94 : decode cX0_about 94 = .ok (.ireturn, 1) := by decide +kernel
theorem dX0_about_95 : decode cX0_about 95 = .ok (.aload_n 0, 1) := by decide +kernel
theorem dX0_about_96 : decode cX0_about 96 = .ok (.iload_n 1, 1) := by decide +kernel
theorem dX0_about_97 : decode cX0_about 97 = .ok (.invokevirtual 133, 3) := by decide +kernel
theorem dX0_about_100 : decode cX0_about 100 = .ok (.ireturn, 1) := by decide +kernel
theorem dX0_about_101 : decode cX0_about 101 = .ok (.aload_n 0, 1) := by decide +kernel
theorem dX0_about_102 : decode cX0_about 102 = .ok (.iload_n 1, 1) := by decide +kernel
theorem dX0_about_103 : decode cX0_about 103 = .ok (.invokevirtual 136, 3) := by decide +kernel
theorem dX0_about_106 : decode cX0_about 106 = .ok (.ireturn, 1) := by decide +kernel
theorem dX0_about_107 : decode cX0_about 107 = .ok (.aload_n 0, 1) := by decide +kernel
theorem dX0_about_108 : decode cX0_about 108 = .ok (.getfield 22, 3) := by decide +kernel
theorem dX0_about_111 : decode cX0_about 111 = .ok (.iload_n 1, 1) := by decide +kernel
theorem dX0_about_112 : decode cX0_about 112 = .ok (.iaload, 1) := by decide +kernel
theorem dX0_about_113 : decode cX0_about 113 = .ok (.ireturn, 1) := by decide +kernel
set_option maxRecDepth 20000 in
theorem ggX0_count_X0_requireWhat : GoodIn wsX0_count wsX0_requireWhat := goodIn_ca (goodIn_r _ [9, 10, 11] (by decide +kernel) (by decide +kernel)) (goodIn_sub (fun _ h => List.mem_cons_of_mem _ (List.mem_append_right _ h)) (by decide +kernel))
set_option maxRecDepth 20000 in
theorem gX0_count_X0_requireWhat : GoodIn wsX0_count (wsV RX0 112 RX0 yX0_requireWhat wsX0_requireWhat) := goodIn_app (goodIn_of _ (by decide +kernel)) ggX0_count_X0_requireWhat
set_option maxRecDepth 20000 in
theorem ggX0_count_X0_traysOf : GoodIn wsX0_count wsX0_traysOf := goodIn_r _ [15, 16, 35, 36, 37, 38, 39, 40, 41, 42, 43, 44, 45, 46, 47, 48, 49, 50] (by decide +kernel) (by decide +kernel)
set_option maxRecDepth 20000 in
theorem gX0_count_X0_traysOf : GoodIn wsX0_count (wsV RX0 126 RX0 yX0_traysOf wsX0_traysOf) := goodIn_app (goodIn_of _ (by decide +kernel)) ggX0_count_X0_traysOf
set_option maxRecDepth 20000 in
theorem ggX0_count_X0_thingsThere : GoodIn wsX0_count wsX0_thingsThere := goodIn_r _ [20, 1, 21, 22, 23, 8, 24, 16, 25, 35, 36, 37, 38, 39, 40, 41, 42, 43, 44, 45, 46, 47, 48, 49, 50] (by decide +kernel) (by decide +kernel)
set_option maxRecDepth 20000 in
theorem gX0_count_X0_thingsThere : GoodIn wsX0_count (wsV RX0 139 RX0 yX0_thingsThere wsX0_thingsThere) := goodIn_app (goodIn_of _ (by decide +kernel)) ggX0_count_X0_thingsThere
set_option maxRecDepth 20000 in
theorem ggX0_count_X0_wastedInAll : GoodIn wsX0_count wsX0_wastedInAll := goodIn_r _ [29, 1, 30, 31, 32, 8, 33, 34, 12, 13, 14, 15, 16, 21, 22, 23, 24, 25, 35, 36, 37, 38, 39, 40, 41, 42, 43, 44, 45, 46, 47, 48, 49, 50] (by decide +kernel) (by decide +kernel)
set_option maxRecDepth 20000 in
theorem gX0_count_X0_wastedInAll : GoodIn wsX0_count (wsV RX0 143 RX0 yX0_wastedInAll wsX0_wastedInAll) := goodIn_app (goodIn_of _ (by decide +kernel)) ggX0_count_X0_wastedInAll
theorem dX0_count_0 : decode cX0_count 0 = .ok (.aload_n 0, 1) := by decide +kernel
theorem dX0_count_1 : decode cX0_count 1 = .ok (.iload_n 1, 1) := by decide +kernel
theorem dX0_count_2 : decode cX0_count 2 = .ok (.bipush 6, 2) := by decide +kernel
theorem dX0_count_4 : decode cX0_count 4 = .ok (.invokevirtual 112, 3) := by decide +kernel
theorem dX0_count_7 : decode cX0_count 7 = .ok (.iload_n 1, 1) := by decide +kernel
theorem dX0_count_8 : decode cX0_count 8 = .ok (.tableswitch 74 0 5 #[40, 45, 54, 59, 64, 69], 40) := by decide +kernel
theorem dX0_count_48 : decode cX0_count 48 = .ok (.aload_n 0, 1) := by decide +kernel
theorem dX0_count_49 : decode cX0_count 49 = .ok (.getfield 55, 3) := by decide +kernel
theorem dX0_count_52 : decode cX0_count 52 = .ok (.ireturn, 1) := by decide +kernel
theorem dX0_count_53 : decode cX0_count 53 = .ok (.bipush 20, 2) := by decide +kernel
theorem dX0_count_55 : decode cX0_count 55 = .ok (.aload_n 0, 1) := by decide +kernel
theorem dX0_count_56 : decode cX0_count 56 = .ok (.iconst (-1), 1) := by decide +kernel
theorem dX0_count_57 : decode cX0_count 57 = .ok (.invokevirtual 126, 3) := by decide +kernel
theorem dX0_count_60 : decode cX0_count 60 = .ok (.isub, 1) := by decide +kernel
theorem dX0_count_61 : decode cX0_count 61 = .ok (.ireturn, 1) := by decide +kernel
theorem dX0_count_62 : decode cX0_count 62 = .ok (.aload_n 0, 1) := by decide +kernel
theorem dX0_count_63 : decode cX0_count 63 = .ok (.invokevirtual 139, 3) := by decide +kernel
theorem dX0_count_66 : decode cX0_count 66 = .ok (.ireturn, 1) := by decide +kernel
theorem dX0_count_67 : decode cX0_count 67 = .ok (.aload_n 0, 1) := by decide +kernel
theorem dX0_count_68 : decode cX0_count 68 = .ok (.getfield 68, 3) := by decide +kernel
theorem dX0_count_71 : decode cX0_count 71 = .ok (.ireturn, 1) := by decide +kernel
theorem dX0_count_72 : decode cX0_count 72 = .ok (.aload_n 0, 1) := by decide +kernel
theorem dX0_count_73 : decode cX0_count 73 = .ok (.invokevirtual 143, 3) := by decide +kernel
theorem dX0_count_76 : decode cX0_count 76 = .ok (.ireturn, 1) := by decide +kernel
theorem dX0_count_77 : decode cX0_count 77 = .ok (.aload_n 0, 1) := by decide +kernel
theorem dX0_count_78 : decode cX0_count 78 = .ok (.getfield 146, 3) := by decide +kernel
theorem dX0_count_81 : decode cX0_count 81 = .ok (.ireturn, 1) := by decide +kernel
theorem dX0_count_82 : decode cX0_count 82 = .ok (.aload_n 0, 1) := by decide +kernel
theorem dX0_count_83 : decode cX0_count 83 = .ok (.getfield 109, 3) := by decide +kernel
theorem dX0_count_86 : decode cX0_count 86 = .ok (.ireturn, 1) := by decide +kernel
set_option maxRecDepth 20000 in
theorem ggX0_would_X0_requireKind : GoodIn wsX0_would wsX0_requireKind := goodIn_ca (goodIn_r _ [5, 6, 7, 8, 32, 33, 34, 35, 36, 37, 38, 39, 40, 41, 42, 43, 44, 45, 46, 47] (by decide +kernel) (by decide +kernel)) (goodIn_sub (fun _ h => List.mem_cons_of_mem _ (List.mem_append_right _ h)) (by decide +kernel))
set_option maxRecDepth 20000 in
theorem gX0_would_X0_requireKind : GoodIn wsX0_would (wsV RX0 64 RX0 yX0_requireKind wsX0_requireKind) := goodIn_app (goodIn_of _ (by decide +kernel)) ggX0_would_X0_requireKind
set_option maxRecDepth 20000 in
theorem ggX0_would_X0_placeFor : GoodIn wsX0_would wsX0_placeFor := goodIn_r _ [12, 13, 14, 15, 4, 16, 17, 18, 19, 20, 21, 22, 23, 24, 25, 26, 27, 28, 29, 30, 31, 32, 33, 34, 35, 36, 37, 38, 39, 40, 41, 42, 43, 44, 45, 46, 47] (by decide +kernel) (by decide +kernel)
set_option maxRecDepth 20000 in
theorem gX0_would_X0_placeFor : GoodIn wsX0_would (wsV RX0 73 RX0 yX0_placeFor wsX0_placeFor) := goodIn_app (goodIn_of _ (by decide +kernel)) ggX0_would_X0_placeFor
theorem dX0_would_0 : decode cX0_would 0 = .ok (.aload_n 0, 1) := by decide +kernel
theorem dX0_would_1 : decode cX0_would 1 = .ok (.iload_n 1, 1) := by decide +kernel
theorem dX0_would_2 : decode cX0_would 2 = .ok (.invokevirtual 64, 3) := by decide +kernel
theorem dX0_would_5 : decode cX0_would 5 = .ok (.aload_n 0, 1) := by decide +kernel
theorem dX0_would_6 : decode cX0_would 6 = .ok (.iload_n 1, 1) := by decide +kernel
theorem dX0_would_7 : decode cX0_would 7 = .ok (.invokevirtual 73, 3) := by decide +kernel
theorem dX0_would_10 : decode cX0_would 10 = .ok (.ireturn, 1) := by decide +kernel
set_option maxRecDepth 20000 in
theorem ggX0_spares_X0_requireKind : GoodIn wsX0_spares wsX0_requireKind := goodIn_ca (goodIn_r _ [7, 8, 9, 10, 16, 17, 18, 19, 20, 21, 22, 23, 24, 25, 26, 27, 28, 29, 30, 31] (by decide +kernel) (by decide +kernel)) (goodIn_sub (fun _ h => List.mem_cons_of_mem _ (List.mem_append_right _ h)) (by decide +kernel))
set_option maxRecDepth 20000 in
theorem gX0_spares_X0_requireKind : GoodIn wsX0_spares (wsV RX0 64 RX0 yX0_requireKind wsX0_requireKind) := goodIn_app (goodIn_of _ (by decide +kernel)) ggX0_spares_X0_requireKind
set_option maxRecDepth 20000 in
theorem ggX0_spares_X0_thingsOf : GoodIn wsX0_spares wsX0_thingsOf := goodIn_r _ [14, 1, 15, 16, 17, 18, 19, 20, 21, 22, 23, 24, 25, 26, 27, 28, 29, 30, 31] (by decide +kernel) (by decide +kernel)
set_option maxRecDepth 20000 in
theorem gX0_spares_X0_thingsOf : GoodIn wsX0_spares (wsV RX0 133 RX0 yX0_thingsOf wsX0_thingsOf) := goodIn_app (goodIn_of _ (by decide +kernel)) ggX0_spares_X0_thingsOf
theorem dX0_spares_0 : decode cX0_spares 0 = .ok (.aload_n 0, 1) := by decide +kernel
theorem dX0_spares_1 : decode cX0_spares 1 = .ok (.iload_n 1, 1) := by decide +kernel
theorem dX0_spares_2 : decode cX0_spares 2 = .ok (.invokevirtual 64, 3) := by decide +kernel
theorem dX0_spares_5 : decode cX0_spares 5 = .ok (.aload_n 0, 1) := by decide +kernel
theorem dX0_spares_6 : decode cX0_spares 6 = .ok (.iload_n 1, 1) := by decide +kernel
theorem dX0_spares_7 : decode cX0_spares 7 = .ok (.invokevirtual 133, 3) := by decide +kernel
theorem dX0_spares_10 : decode cX0_spares 10 = .ok (.istore_n 2, 1) := by decide +kernel
theorem dX0_spares_11 : decode cX0_spares 11 = .ok (.iconst 0, 1) := by decide +kernel
theorem dX0_spares_12 : decode cX0_spares 12 = .ok (.istore_n 3, 1) := by decide +kernel
theorem dX0_spares_13 : decode cX0_spares 13 = .ok (.iconst 0, 1) := by decide +kernel
theorem dX0_spares_14 : decode cX0_spares 14 = .ok (.istore 4, 2) := by decide +kernel
theorem dX0_spares_16 : decode cX0_spares 16 = .ok (.iload 4, 2) := by decide +kernel
theorem dX0_spares_18 : decode cX0_spares 18 = .ok (.bipush 20, 2) := by decide +kernel
theorem dX0_spares_20 : decode cX0_spares 20 = .ok (.if_icmp .ge 36, 3) := by decide +kernel
theorem dX0_spares_23 : decode cX0_spares 23 = .ok (.aload_n 0, 1) := by decide +kernel
theorem dX0_spares_24 : decode cX0_spares 24 = .ok (.getfield 25, 3) := by decide +kernel
theorem dX0_spares_27 : decode cX0_spares 27 = .ok (.iload 4, 2) := by decide +kernel
theorem dX0_spares_29 : decode cX0_spares 29 = .ok (.iaload, 1) := by decide +kernel
theorem dX0_spares_30 : decode cX0_spares 30 = .ok (.iload_n 1, 1) := by decide +kernel
theorem dX0_spares_31 : decode cX0_spares 31 = .ok (.if_icmp .ne 19, 3) := by decide +kernel
theorem dX0_spares_34 : decode cX0_spares 34 = .ok (.iload_n 2, 1) := by decide +kernel
theorem dX0_spares_35 : decode cX0_spares 35 = .ok (.ifCond .gt 6, 3) := by decide +kernel
theorem dX0_spares_38 : decode cX0_spares 38 = .ok (.iinc 3 1, 3) := by decide +kernel
theorem dX0_spares_41 : decode cX0_spares 41 = .ok (.iload_n 2, 1) := by decide +kernel
theorem dX0_spares_42 : decode cX0_spares 42 = .ok (.aload_n 0, 1) := by decide +kernel
theorem dX0_spares_43 : decode cX0_spares 43 = .ok (.getfield 16, 3) := by decide +kernel
theorem dX0_spares_46 : decode cX0_spares 46 = .ok (.iload_n 1, 1) := by decide +kernel
theorem dX0_spares_47 : decode cX0_spares 47 = .ok (.iaload, 1) := by decide +kernel
theorem dX0_spares_48 : decode cX0_spares 48 = .ok (.isub, 1) := by decide +kernel
theorem dX0_spares_49 : decode cX0_spares 49 = .ok (.istore_n 2, 1) := by decide +kernel
theorem dX0_spares_50 : decode cX0_spares 50 = .ok (.iinc 4 1, 3) := by decide +kernel
theorem dX0_spares_53 : decode cX0_spares 53 = .ok (.goto (-37), 3) := by decide +kernel
theorem dX0_spares_56 : decode cX0_spares 56 = .ok (.iload_n 3, 1) := by decide +kernel
theorem dX0_spares_57 : decode cX0_spares 57 = .ok (.ireturn, 1) := by decide +kernel
set_option maxRecDepth 20000 in
theorem ggX0_room_X0_requireKind : GoodIn wsX0_room wsX0_requireKind := goodIn_ca (goodIn_r _ [6, 7, 8, 9, 24, 25, 26, 27, 28, 29, 30, 31, 32, 33, 34, 35, 36, 37, 38, 39] (by decide +kernel) (by decide +kernel)) (goodIn_sub (fun _ h => List.mem_cons_of_mem _ (List.mem_append_right _ h)) (by decide +kernel))
set_option maxRecDepth 20000 in
theorem gX0_room_X0_requireKind : GoodIn wsX0_room (wsV RX0 64 RX0 yX0_requireKind wsX0_requireKind) := goodIn_app (goodIn_of _ (by decide +kernel)) ggX0_room_X0_requireKind
set_option maxRecDepth 20000 in
theorem ggX0_room_X0_freeCellsOf : GoodIn wsX0_room wsX0_freeCellsOf := goodIn_r _ [13, 1, 14, 15, 16, 5, 17, 18, 19, 20, 21, 22, 23, 24, 25, 26, 27, 28, 29, 30, 31, 32, 33, 34, 35, 36, 37, 38, 39] (by decide +kernel) (by decide +kernel)
set_option maxRecDepth 20000 in
theorem gX0_room_X0_freeCellsOf : GoodIn wsX0_room (wsV RX0 136 RX0 yX0_freeCellsOf wsX0_freeCellsOf) := goodIn_app (goodIn_of _ (by decide +kernel)) ggX0_room_X0_freeCellsOf
set_option maxRecDepth 20000 in
theorem ggX0_room_X0_traysOf : GoodIn wsX0_room wsX0_traysOf := goodIn_r _ [17, 18, 24, 25, 26, 27, 28, 29, 30, 31, 32, 33, 34, 35, 36, 37, 38, 39] (by decide +kernel) (by decide +kernel)
set_option maxRecDepth 20000 in
theorem gX0_room_X0_traysOf : GoodIn wsX0_room (wsV RX0 126 RX0 yX0_traysOf wsX0_traysOf) := goodIn_app (goodIn_of _ (by decide +kernel)) ggX0_room_X0_traysOf
theorem dX0_room_0 : decode cX0_room 0 = .ok (.aload_n 0, 1) := by decide +kernel
theorem dX0_room_1 : decode cX0_room 1 = .ok (.iload_n 1, 1) := by decide +kernel
theorem dX0_room_2 : decode cX0_room 2 = .ok (.invokevirtual 64, 3) := by decide +kernel
theorem dX0_room_5 : decode cX0_room 5 = .ok (.aload_n 0, 1) := by decide +kernel
theorem dX0_room_6 : decode cX0_room 6 = .ok (.iload_n 1, 1) := by decide +kernel
theorem dX0_room_7 : decode cX0_room 7 = .ok (.invokevirtual 136, 3) := by decide +kernel
theorem dX0_room_10 : decode cX0_room 10 = .ok (.aload_n 0, 1) := by decide +kernel
theorem dX0_room_11 : decode cX0_room 11 = .ok (.iconst (-1), 1) := by decide +kernel
theorem dX0_room_12 : decode cX0_room 12 = .ok (.invokevirtual 126, 3) := by decide +kernel
theorem dX0_room_15 : decode cX0_room 15 = .ok (.aload_n 0, 1) := by decide +kernel
theorem dX0_room_16 : decode cX0_room 16 = .ok (.getfield 16, 3) := by decide +kernel
theorem dX0_room_19 : decode cX0_room 19 = .ok (.iload_n 1, 1) := by decide +kernel
theorem dX0_room_20 : decode cX0_room 20 = .ok (.iaload, 1) := by decide +kernel
theorem dX0_room_21 : decode cX0_room 21 = .ok (.imul, 1) := by decide +kernel
theorem dX0_room_22 : decode cX0_room 22 = .ok (.iadd, 1) := by decide +kernel
theorem dX0_room_23 : decode cX0_room 23 = .ok (.ireturn, 1) := by decide +kernel
set_option maxRecDepth 20000 in
theorem ggX0_worst_X0_wastedBy : GoodIn wsX0_worst wsX0_wastedBy := goodIn_r _ [6, 7, 8, 9, 10, 5, 11, 12, 13, 14, 15, 16, 17, 18, 19, 20, 21, 22, 23, 24, 25, 26, 27, 28, 29, 30, 31, 32, 33] (by decide +kernel) (by decide +kernel)
set_option maxRecDepth 20000 in
theorem gX0_worst_X0_wastedBy : GoodIn wsX0_worst (wsV RX0 149 RX0 yX0_wastedBy wsX0_wastedBy) := goodIn_app (goodIn_of _ (by decide +kernel)) ggX0_worst_X0_wastedBy
theorem dX0_worst_0 : decode cX0_worst 0 = .ok (.iconst (-1), 1) := by decide +kernel
theorem dX0_worst_1 : decode cX0_worst 1 = .ok (.istore_n 1, 1) := by decide +kernel
theorem dX0_worst_2 : decode cX0_worst 2 = .ok (.iconst (-1), 1) := by decide +kernel
theorem dX0_worst_3 : decode cX0_worst 3 = .ok (.istore_n 2, 1) := by decide +kernel
theorem dX0_worst_4 : decode cX0_worst 4 = .ok (.iconst 0, 1) := by decide +kernel
theorem dX0_worst_5 : decode cX0_worst 5 = .ok (.istore_n 3, 1) := by decide +kernel
theorem dX0_worst_6 : decode cX0_worst 6 = .ok (.iload_n 3, 1) := by decide +kernel
theorem dX0_worst_7 : decode cX0_worst 7 = .ok (.aload_n 0, 1) := by decide +kernel
theorem dX0_worst_8 : decode cX0_worst 8 = .ok (.getfield 55, 3) := by decide +kernel
theorem dX0_worst_11 : decode cX0_worst 11 = .ok (.if_icmp .ge 27, 3) := by decide +kernel
theorem dX0_worst_14 : decode cX0_worst 14 = .ok (.aload_n 0, 1) := by decide +kernel
theorem dX0_worst_15 : decode cX0_worst 15 = .ok (.iload_n 3, 1) := by decide +kernel
theorem dX0_worst_16 : decode cX0_worst 16 = .ok (.invokevirtual 149, 3) := by decide +kernel
theorem dX0_worst_19 : decode cX0_worst 19 = .ok (.istore 4, 2) := by decide +kernel
theorem dX0_worst_21 : decode cX0_worst 21 = .ok (.iload 4, 2) := by decide +kernel
theorem dX0_worst_23 : decode cX0_worst 23 = .ok (.iload_n 2, 1) := by decide +kernel
theorem dX0_worst_24 : decode cX0_worst 24 = .ok (.if_icmp .le 8, 3) := by decide +kernel
theorem dX0_worst_27 : decode cX0_worst 27 = .ok (.iload 4, 2) := by decide +kernel
theorem dX0_worst_29 : decode cX0_worst 29 = .ok (.istore_n 2, 1) := by decide +kernel
theorem dX0_worst_30 : decode cX0_worst 30 = .ok (.iload_n 3, 1) := by decide +kernel
theorem dX0_worst_31 : decode cX0_worst 31 = .ok (.istore_n 1, 1) := by decide +kernel
theorem dX0_worst_32 : decode cX0_worst 32 = .ok (.iinc 3 1, 3) := by decide +kernel
theorem dX0_worst_35 : decode cX0_worst 35 = .ok (.goto (-29), 3) := by decide +kernel
theorem dX0_worst_38 : decode cX0_worst 38 = .ok (.iload_n 1, 1) := by decide +kernel
theorem dX0_worst_39 : decode cX0_worst 39 = .ok (.ireturn, 1) := by decide +kernel
set_option maxRecDepth 20000 in
theorem ggX0_mean_X0_traysOf : GoodIn wsX0_mean wsX0_traysOf := goodIn_r _ [5, 6, 17, 18, 19, 20, 21, 22, 23, 24, 25, 26, 27, 28, 29, 30, 31, 32] (by decide +kernel) (by decide +kernel)
set_option maxRecDepth 20000 in
theorem gX0_mean_X0_traysOf : GoodIn wsX0_mean (wsV RX0 126 RX0 yX0_traysOf wsX0_traysOf) := goodIn_app (goodIn_of _ (by decide +kernel)) ggX0_mean_X0_traysOf
set_option maxRecDepth 20000 in
theorem ggX0_mean_X0_thingsThere : GoodIn wsX0_mean wsX0_thingsThere := goodIn_r _ [10, 11, 12, 13, 14, 4, 15, 6, 16, 17, 18, 19, 20, 21, 22, 23, 24, 25, 26, 27, 28, 29, 30, 31, 32] (by decide +kernel) (by decide +kernel)
set_option maxRecDepth 20000 in
theorem gX0_mean_X0_thingsThere : GoodIn wsX0_mean (wsV RX0 139 RX0 yX0_thingsThere wsX0_thingsThere) := goodIn_app (goodIn_of _ (by decide +kernel)) ggX0_mean_X0_thingsThere
theorem dX0_mean_0 : decode cX0_mean 0 = .ok (.bipush 20, 2) := by decide +kernel
theorem dX0_mean_2 : decode cX0_mean 2 = .ok (.aload_n 0, 1) := by decide +kernel
theorem dX0_mean_3 : decode cX0_mean 3 = .ok (.iconst (-1), 1) := by decide +kernel
theorem dX0_mean_4 : decode cX0_mean 4 = .ok (.invokevirtual 126, 3) := by decide +kernel
theorem dX0_mean_7 : decode cX0_mean 7 = .ok (.isub, 1) := by decide +kernel
theorem dX0_mean_8 : decode cX0_mean 8 = .ok (.istore_n 1, 1) := by decide +kernel
theorem dX0_mean_9 : decode cX0_mean 9 = .ok (.iload_n 1, 1) := by decide +kernel
theorem dX0_mean_10 : decode cX0_mean 10 = .ok (.ifCond .ne 5, 3) := by decide +kernel
theorem dX0_mean_13 : decode cX0_mean 13 = .ok (.dconst 0, 1) := by decide +kernel
theorem dX0_mean_14 : decode cX0_mean 14 = .ok (.dreturn, 1) := by decide +kernel
theorem dX0_mean_15 : decode cX0_mean 15 = .ok (.aload_n 0, 1) := by decide +kernel
theorem dX0_mean_16 : decode cX0_mean 16 = .ok (.invokevirtual 139, 3) := by decide +kernel
theorem dX0_mean_19 : decode cX0_mean 19 = .ok (.i2d, 1) := by decide +kernel
theorem dX0_mean_20 : decode cX0_mean 20 = .ok (.iload_n 1, 1) := by decide +kernel
theorem dX0_mean_21 : decode cX0_mean 21 = .ok (.i2d, 1) := by decide +kernel
theorem dX0_mean_22 : decode cX0_mean 22 = .ok (.ddiv, 1) := by decide +kernel
theorem dX0_mean_23 : decode cX0_mean 23 = .ok (.dreturn, 1) := by decide +kernel
set_option maxRecDepth 20000 in
theorem ggX0_digest_X0_count : GoodIn wsX0_digest wsX0_count := goodIn_ca (goodIn_r _ [8, 3, 9, 10, 11, 12, 13, 14, 7, 15, 16, 17, 18, 19, 20, 21, 22, 23, 24, 25, 26, 27, 28, 29, 30, 31, 32, 33, 34, 35, 36, 37, 38, 39, 40, 78, 79, 80, 81, 82, 83, 84, 85, 86, 87, 88, 89, 90, 91, 92, 93] (by decide +kernel) (by decide +kernel)) (goodIn_sub (fun _ h => List.mem_cons_of_mem _ (List.mem_append_right _ h)) (by decide +kernel))
set_option maxRecDepth 20000 in
theorem gX0_digest_X0_count : GoodIn wsX0_digest (wsV RX0 156 RX0 yX0_count wsX0_count) := goodIn_app (goodIn_of _ (by decide +kernel)) ggX0_digest_X0_count
set_option maxRecDepth 20000 in
theorem ggX0_digest_X0_about : GoodIn wsX0_digest wsX0_about := goodIn_ca (goodIn_r _ [44, 40, 45, 46, 47, 48, 49, 50, 7, 51, 16, 17, 3, 12, 13, 14, 15, 18, 19, 20, 21, 22, 52, 53, 54, 55, 31, 27, 28, 29, 30, 56, 57, 58, 59, 78, 79, 80, 81, 82, 83, 84, 85, 86, 87, 88, 89, 90, 91, 92, 93] (by decide +kernel) (by decide +kernel)) (goodIn_sub (fun _ h => List.mem_cons_of_mem _ (List.mem_append_right _ h)) (by decide +kernel))
set_option maxRecDepth 20000 in
theorem gX0_digest_X0_about : GoodIn wsX0_digest (wsV RX0 159 RX0 yX0_about wsX0_about) := goodIn_app (goodIn_of _ (by decide +kernel)) ggX0_digest_X0_about
set_option maxRecDepth 20000 in
theorem ggX0_digest_X0_digestPlace : GoodIn wsX0_digest wsX0_digestPlace := goodIn_ca (goodIn_r _ [63, 2, 64, 65, 66, 67, 7, 68, 22, 69, 46, 31, 40, 70, 71, 72, 73, 16, 17, 12, 13, 14, 15, 74, 75, 76, 77, 78, 79, 80, 81, 82, 83, 84, 85, 86, 87, 88, 89, 90, 91, 92, 93] (by decide +kernel) (by decide +kernel)) (goodIn_sub (fun _ h => List.mem_cons_of_mem _ (List.mem_append_right _ h)) (by decide +kernel))
set_option maxRecDepth 20000 in
theorem gX0_digest_X0_digestPlace : GoodIn wsX0_digest (wsV RX0 162 RX0 yX0_digestPlace wsX0_digestPlace) := goodIn_app (goodIn_of _ (by decide +kernel)) ggX0_digest_X0_digestPlace
theorem dX0_digest_0 : decode cX0_digest 0 = .ok (.ldc2_w 152, 3) := by decide +kernel
theorem dX0_digest_3 : decode cX0_digest 3 = .ok (.lstore_n 1, 1) := by decide +kernel
theorem dX0_digest_4 : decode cX0_digest 4 = .ok (.iconst 0, 1) := by decide +kernel
theorem dX0_digest_5 : decode cX0_digest 5 = .ok (.istore_n 3, 1) := by decide +kernel
theorem dX0_digest_6 : decode cX0_digest 6 = .ok (.iload_n 3, 1) := by decide +kernel
theorem dX0_digest_7 : decode cX0_digest 7 = .ok (.bipush 6, 2) := by decide +kernel
theorem dX0_digest_9 : decode cX0_digest 9 = .ok (.if_icmp .gt 22, 3) := by decide +kernel
theorem dX0_digest_12 : decode cX0_digest 12 = .ok (.lload_n 1, 1) := by decide +kernel
theorem dX0_digest_13 : decode cX0_digest 13 = .ok (.ldc2_w 154, 3) := by decide +kernel
theorem dX0_digest_16 : decode cX0_digest 16 = .ok (.lmul, 1) := by decide +kernel
theorem dX0_digest_17 : decode cX0_digest 17 = .ok (.aload_n 0, 1) := by decide +kernel
theorem dX0_digest_18 : decode cX0_digest 18 = .ok (.iload_n 3, 1) := by decide +kernel
theorem dX0_digest_19 : decode cX0_digest 19 = .ok (.invokevirtual 156, 3) := by decide +kernel
theorem dX0_digest_22 : decode cX0_digest 22 = .ok (.i2l, 1) := by decide +kernel
theorem dX0_digest_23 : decode cX0_digest 23 = .ok (.ladd, 1) := by decide +kernel
theorem dX0_digest_24 : decode cX0_digest 24 = .ok (.lstore_n 1, 1) := by decide +kernel
theorem dX0_digest_25 : decode cX0_digest 25 = .ok (.iinc 3 1, 3) := by decide +kernel
theorem dX0_digest_28 : decode cX0_digest 28 = .ok (.goto (-22), 3) := by decide +kernel
theorem dX0_digest_31 : decode cX0_digest 31 = .ok (.iconst 0, 1) := by decide +kernel
theorem dX0_digest_32 : decode cX0_digest 32 = .ok (.istore_n 3, 1) := by decide +kernel
theorem dX0_digest_33 : decode cX0_digest 33 = .ok (.iload_n 3, 1) := by decide +kernel
theorem dX0_digest_34 : decode cX0_digest 34 = .ok (.aload_n 0, 1) := by decide +kernel
theorem dX0_digest_35 : decode cX0_digest 35 = .ok (.getfield 55, 3) := by decide +kernel
theorem dX0_digest_38 : decode cX0_digest 38 = .ok (.if_icmp .ge 40, 3) := by decide +kernel
theorem dX0_digest_41 : decode cX0_digest 41 = .ok (.iconst 0, 1) := by decide +kernel
theorem dX0_digest_42 : decode cX0_digest 42 = .ok (.istore 4, 2) := by decide +kernel
theorem dX0_digest_44 : decode cX0_digest 44 = .ok (.iload 4, 2) := by decide +kernel
theorem dX0_digest_46 : decode cX0_digest 46 = .ok (.bipush 7, 2) := by decide +kernel
theorem dX0_digest_48 : decode cX0_digest 48 = .ok (.if_icmp .gt 24, 3) := by decide +kernel
theorem dX0_digest_51 : decode cX0_digest 51 = .ok (.lload_n 1, 1) := by decide +kernel
theorem dX0_digest_52 : decode cX0_digest 52 = .ok (.ldc2_w 154, 3) := by decide +kernel
theorem dX0_digest_55 : decode cX0_digest 55 = .ok (.lmul, 1) := by decide +kernel
theorem dX0_digest_56 : decode cX0_digest 56 = .ok (.aload_n 0, 1) := by decide +kernel
theorem dX0_digest_57 : decode cX0_digest 57 = .ok (.iload_n 3, 1) := by decide +kernel
theorem dX0_digest_58 : decode cX0_digest 58 = .ok (.iload 4, 2) := by decide +kernel
theorem dX0_digest_60 : decode cX0_digest 60 = .ok (.invokevirtual 159, 3) := by decide +kernel
theorem dX0_digest_63 : decode cX0_digest 63 = .ok (.i2l, 1) := by decide +kernel
theorem dX0_digest_64 : decode cX0_digest 64 = .ok (.ladd, 1) := by decide +kernel
theorem dX0_digest_65 : decode cX0_digest 65 = .ok (.lstore_n 1, 1) := by decide +kernel
theorem dX0_digest_66 : decode cX0_digest 66 = .ok (.iinc 4 1, 3) := by decide +kernel
theorem dX0_digest_69 : decode cX0_digest 69 = .ok (.goto (-25), 3) := by decide +kernel
theorem dX0_digest_72 : decode cX0_digest 72 = .ok (.iinc 3 1, 3) := by decide +kernel
theorem dX0_digest_75 : decode cX0_digest 75 = .ok (.goto (-42), 3) := by decide +kernel
theorem dX0_digest_78 : decode cX0_digest 78 = .ok (.iconst 0, 1) := by decide +kernel
theorem dX0_digest_79 : decode cX0_digest 79 = .ok (.istore_n 3, 1) := by decide +kernel
theorem dX0_digest_80 : decode cX0_digest 80 = .ok (.iload_n 3, 1) := by decide +kernel
theorem dX0_digest_81 : decode cX0_digest 81 = .ok (.bipush 20, 2) := by decide +kernel
theorem dX0_digest_83 : decode cX0_digest 83 = .ok (.if_icmp .ge 16, 3) := by decide +kernel
theorem dX0_digest_86 : decode cX0_digest 86 = .ok (.aload_n 0, 1) := by decide +kernel
theorem dX0_digest_87 : decode cX0_digest 87 = .ok (.lload_n 1, 1) := by decide +kernel
theorem dX0_digest_88 : decode cX0_digest 88 = .ok (.iload_n 3, 1) := by decide +kernel
theorem dX0_digest_89 : decode cX0_digest 89 = .ok (.invokevirtual 162, 3) := by decide +kernel
theorem dX0_digest_92 : decode cX0_digest 92 = .ok (.lstore_n 1, 1) := by decide +kernel
theorem dX0_digest_93 : decode cX0_digest 93 = .ok (.iinc 3 1, 3) := by decide +kernel
theorem dX0_digest_96 : decode cX0_digest 96 = .ok (.goto (-16), 3) := by decide +kernel
theorem dX0_digest_99 : decode cX0_digest 99 = .ok (.lload_n 1, 1) := by decide +kernel
theorem dX0_digest_100 : decode cX0_digest 100 = .ok (.lreturn, 1) := by decide +kernel
set_option maxRecDepth 20000 in
theorem ggX0_digestPlace_X0_tray : GoodIn wsX0_digestPlace wsX0_tray := goodIn_ca (goodIn_r _ [7, 8, 9, 10, 11, 12, 13, 14, 15, 6, 16, 17, 18, 19, 20, 21, 22, 27, 28, 29, 30, 31, 32, 33, 34, 35, 36, 37, 38, 39, 40, 41, 42] (by decide +kernel) (by decide +kernel)) (goodIn_sub (fun _ h => List.mem_cons_of_mem _ (List.mem_append_right _ h)) (by decide +kernel))
set_option maxRecDepth 20000 in
theorem gX0_digestPlace_X0_tray : GoodIn wsX0_digestPlace (wsV RX0 166 RX0 yX0_tray wsX0_tray) := goodIn_app (goodIn_of _ (by decide +kernel)) ggX0_digestPlace_X0_tray
set_option maxRecDepth 20000 in
theorem ggX0_digestPlace_X0_cellsAt : GoodIn wsX0_digestPlace wsX0_cellsAt := goodIn_r _ [26, 8, 10, 27, 28, 29, 30, 31, 32, 33, 34, 35, 36, 37, 38, 39, 40, 41, 42] (by decide +kernel) (by decide +kernel)
set_option maxRecDepth 20000 in
theorem gX0_digestPlace_X0_cellsAt : GoodIn wsX0_digestPlace (wsV RX0 118 RX0 yX0_cellsAt wsX0_cellsAt) := goodIn_app (goodIn_of _ (by decide +kernel)) ggX0_digestPlace_X0_cellsAt
theorem dX0_digestPlace_0 : decode cX0_digestPlace 0 = .ok (.lload_n 1, 1) := by decide +kernel
theorem dX0_digestPlace_1 : decode cX0_digestPlace 1 = .ok (.lstore 4, 2) := by decide +kernel
theorem dX0_digestPlace_3 : decode cX0_digestPlace 3 = .ok (.iconst 0, 1) := by decide +kernel
theorem dX0_digestPlace_4 : decode cX0_digestPlace 4 = .ok (.istore 6, 2) := by decide +kernel
theorem dX0_digestPlace_6 : decode cX0_digestPlace 6 = .ok (.iload 6, 2) := by decide +kernel
theorem dX0_digestPlace_8 : decode cX0_digestPlace 8 = .ok (.iconst 4, 1) := by decide +kernel
theorem dX0_digestPlace_9 : decode cX0_digestPlace 9 = .ok (.if_icmp .gt 26, 3) := by decide +kernel
theorem dX0_digestPlace_12 : decode cX0_digestPlace 12 = .ok (.lload 4, 2) := by decide +kernel
theorem dX0_digestPlace_14 : decode cX0_digestPlace 14 = .ok (.ldc2_w 154, 3) := by decide +kernel
theorem dX0_digestPlace_17 : decode cX0_digestPlace 17 = .ok (.lmul, 1) := by decide +kernel
theorem dX0_digestPlace_18 : decode cX0_digestPlace 18 = .ok (.aload_n 0, 1) := by decide +kernel
theorem dX0_digestPlace_19 : decode cX0_digestPlace 19 = .ok (.iload_n 3, 1) := by decide +kernel
theorem dX0_digestPlace_20 : decode cX0_digestPlace 20 = .ok (.iload 6, 2) := by decide +kernel
theorem dX0_digestPlace_22 : decode cX0_digestPlace 22 = .ok (.invokevirtual 166, 3) := by decide +kernel
theorem dX0_digestPlace_25 : decode cX0_digestPlace 25 = .ok (.i2l, 1) := by decide +kernel
theorem dX0_digestPlace_26 : decode cX0_digestPlace 26 = .ok (.ladd, 1) := by decide +kernel
theorem dX0_digestPlace_27 : decode cX0_digestPlace 27 = .ok (.lstore 4, 2) := by decide +kernel
theorem dX0_digestPlace_29 : decode cX0_digestPlace 29 = .ok (.iinc 6 1, 3) := by decide +kernel
theorem dX0_digestPlace_32 : decode cX0_digestPlace 32 = .ok (.goto (-26), 3) := by decide +kernel
theorem dX0_digestPlace_35 : decode cX0_digestPlace 35 = .ok (.aload_n 0, 1) := by decide +kernel
theorem dX0_digestPlace_36 : decode cX0_digestPlace 36 = .ok (.iload_n 3, 1) := by decide +kernel
theorem dX0_digestPlace_37 : decode cX0_digestPlace 37 = .ok (.invokevirtual 118, 3) := by decide +kernel
theorem dX0_digestPlace_40 : decode cX0_digestPlace 40 = .ok (.istore 6, 2) := by decide +kernel
theorem dX0_digestPlace_42 : decode cX0_digestPlace 42 = .ok (.iconst 0, 1) := by decide +kernel
theorem dX0_digestPlace_43 : decode cX0_digestPlace 43 = .ok (.istore 7, 2) := by decide +kernel
theorem dX0_digestPlace_45 : decode cX0_digestPlace 45 = .ok (.iload 7, 2) := by decide +kernel
theorem dX0_digestPlace_47 : decode cX0_digestPlace 47 = .ok (.iload 6, 2) := by decide +kernel
theorem dX0_digestPlace_49 : decode cX0_digestPlace 49 = .ok (.if_icmp .ge 31, 3) := by decide +kernel
theorem dX0_digestPlace_52 : decode cX0_digestPlace 52 = .ok (.lload 4, 2) := by decide +kernel
theorem dX0_digestPlace_54 : decode cX0_digestPlace 54 = .ok (.ldc2_w 154, 3) := by decide +kernel
theorem dX0_digestPlace_57 : decode cX0_digestPlace 57 = .ok (.lmul, 1) := by decide +kernel
theorem dX0_digestPlace_58 : decode cX0_digestPlace 58 = .ok (.aload_n 0, 1) := by decide +kernel
theorem dX0_digestPlace_59 : decode cX0_digestPlace 59 = .ok (.getfield 34, 3) := by decide +kernel
theorem dX0_digestPlace_62 : decode cX0_digestPlace 62 = .ok (.iload_n 3, 1) := by decide +kernel
theorem dX0_digestPlace_63 : decode cX0_digestPlace 63 = .ok (.bipush 64, 2) := by decide +kernel
theorem dX0_digestPlace_65 : decode cX0_digestPlace 65 = .ok (.imul, 1) := by decide +kernel
theorem dX0_digestPlace_66 : decode cX0_digestPlace 66 = .ok (.iload 7, 2) := by decide +kernel
theorem dX0_digestPlace_68 : decode cX0_digestPlace 68 = .ok (.iadd, 1) := by decide +kernel
theorem dX0_digestPlace_69 : decode cX0_digestPlace 69 = .ok (.iaload, 1) := by decide +kernel
theorem dX0_digestPlace_70 : decode cX0_digestPlace 70 = .ok (.i2l, 1) := by decide +kernel
theorem dX0_digestPlace_71 : decode cX0_digestPlace 71 = .ok (.ladd, 1) := by decide +kernel
theorem dX0_digestPlace_72 : decode cX0_digestPlace 72 = .ok (.lstore 4, 2) := by decide +kernel
theorem dX0_digestPlace_74 : decode cX0_digestPlace 74 = .ok (.iinc 7 1, 3) := by decide +kernel
theorem dX0_digestPlace_77 : decode cX0_digestPlace 77 = .ok (.goto (-32), 3) := by decide +kernel
theorem dX0_digestPlace_80 : decode cX0_digestPlace 80 = .ok (.lload 4, 2) := by decide +kernel
theorem dX0_digestPlace_82 : decode cX0_digestPlace 82 = .ok (.lreturn, 1) := by decide +kernel
theorem dX0_requireKind_0 : decode cX0_requireKind 0 = .ok (.iload_n 1, 1) := by decide +kernel
theorem dX0_requireKind_1 : decode cX0_requireKind 1 = .ok (.ifCond .lt 11, 3) := by decide +kernel
theorem dX0_requireKind_4 : decode cX0_requireKind 4 = .ok (.iload_n 1, 1) := by decide +kernel
theorem dX0_requireKind_5 : decode cX0_requireKind 5 = .ok (.aload_n 0, 1) := by decide +kernel
theorem dX0_requireKind_6 : decode cX0_requireKind 6 = .ok (.getfield 55, 3) := by decide +kernel
theorem dX0_requireKind_9 : decode cX0_requireKind 9 = .ok (.if_icmp .lt 13, 3) := by decide +kernel
theorem dX0_requireKind_12 : decode cX0_requireKind 12 = .ok (.new 121, 3) := by decide +kernel
theorem dX0_requireKind_15 : decode cX0_requireKind 15 = .ok (.dup, 1) := by decide +kernel
theorem dX0_requireKind_16 : decode cX0_requireKind 16 = .ok (.ldc 169, 2) := by decide +kernel
theorem dX0_requireKind_18 : decode cX0_requireKind 18 = .ok (.invokespecial 125, 3) := by decide +kernel
theorem dX0_requireKind_21 : decode cX0_requireKind 21 = .ok (.athrow, 1) := by decide +kernel
theorem dX0_requireKind_22 : decode cX0_requireKind 22 = .ok (.return_, 1) := by decide +kernel
theorem dX0_requireThing_0 : decode cX0_requireThing 0 = .ok (.iload_n 1, 1) := by decide +kernel
theorem dX0_requireThing_1 : decode cX0_requireThing 1 = .ok (.ifCond .lt 11, 3) := by decide +kernel
theorem dX0_requireThing_4 : decode cX0_requireThing 4 = .ok (.iload_n 1, 1) := by decide +kernel
theorem dX0_requireThing_5 : decode cX0_requireThing 5 = .ok (.aload_n 0, 1) := by decide +kernel
theorem dX0_requireThing_6 : decode cX0_requireThing 6 = .ok (.getfield 68, 3) := by decide +kernel
theorem dX0_requireThing_9 : decode cX0_requireThing 9 = .ok (.if_icmp .lt 13, 3) := by decide +kernel
theorem dX0_requireThing_12 : decode cX0_requireThing 12 = .ok (.new 121, 3) := by decide +kernel
theorem dX0_requireThing_15 : decode cX0_requireThing 15 = .ok (.dup, 1) := by decide +kernel
theorem dX0_requireThing_16 : decode cX0_requireThing 16 = .ok (.ldc 171, 2) := by decide +kernel
theorem dX0_requireThing_18 : decode cX0_requireThing 18 = .ok (.invokespecial 125, 3) := by decide +kernel
theorem dX0_requireThing_21 : decode cX0_requireThing 21 = .ok (.athrow, 1) := by decide +kernel
theorem dX0_requireThing_22 : decode cX0_requireThing 22 = .ok (.return_, 1) := by decide +kernel
theorem dX0_requirePlace_0 : decode cX0_requirePlace 0 = .ok (.iload_n 1, 1) := by decide +kernel
theorem dX0_requirePlace_1 : decode cX0_requirePlace 1 = .ok (.ifCond .lt 9, 3) := by decide +kernel
theorem dX0_requirePlace_4 : decode cX0_requirePlace 4 = .ok (.iload_n 1, 1) := by decide +kernel
theorem dX0_requirePlace_5 : decode cX0_requirePlace 5 = .ok (.bipush 20, 2) := by decide +kernel
theorem dX0_requirePlace_7 : decode cX0_requirePlace 7 = .ok (.if_icmp .lt 13, 3) := by decide +kernel
theorem dX0_requirePlace_10 : decode cX0_requirePlace 10 = .ok (.new 121, 3) := by decide +kernel
theorem dX0_requirePlace_13 : decode cX0_requirePlace 13 = .ok (.dup, 1) := by decide +kernel
theorem dX0_requirePlace_14 : decode cX0_requirePlace 14 = .ok (.ldc 173, 2) := by decide +kernel
theorem dX0_requirePlace_16 : decode cX0_requirePlace 16 = .ok (.invokespecial 125, 3) := by decide +kernel
theorem dX0_requirePlace_19 : decode cX0_requirePlace 19 = .ok (.athrow, 1) := by decide +kernel
theorem dX0_requirePlace_20 : decode cX0_requirePlace 20 = .ok (.return_, 1) := by decide +kernel
theorem dX0_requireWhat_0 : decode cX0_requireWhat 0 = .ok (.iload_n 1, 1) := by decide +kernel
theorem dX0_requireWhat_1 : decode cX0_requireWhat 1 = .ok (.ifCond .lt 8, 3) := by decide +kernel
theorem dX0_requireWhat_4 : decode cX0_requireWhat 4 = .ok (.iload_n 1, 1) := by decide +kernel
theorem dX0_requireWhat_5 : decode cX0_requireWhat 5 = .ok (.iload_n 2, 1) := by decide +kernel
theorem dX0_requireWhat_6 : decode cX0_requireWhat 6 = .ok (.if_icmp .le 13, 3) := by decide +kernel
theorem dX0_requireWhat_9 : decode cX0_requireWhat 9 = .ok (.new 121, 3) := by decide +kernel
theorem dX0_requireWhat_12 : decode cX0_requireWhat 12 = .ok (.dup, 1) := by decide +kernel
theorem dX0_requireWhat_13 : decode cX0_requireWhat 13 = .ok (.ldc 175, 2) := by decide +kernel
theorem dX0_requireWhat_15 : decode cX0_requireWhat 15 = .ok (.invokespecial 125, 3) := by decide +kernel
theorem dX0_requireWhat_18 : decode cX0_requireWhat 18 = .ok (.athrow, 1) := by decide +kernel
theorem dX0_requireWhat_19 : decode cX0_requireWhat 19 = .ok (.return_, 1) := by decide +kernel
set_option maxRecDepth 20000 in
theorem ggX0_placeFor_X0_mostPartly : GoodIn wsX0_placeFor wsX0_mostPartly := goodIn_r _ [5, 6, 7, 8, 9, 4, 10, 11, 12, 21, 22, 23, 24, 25, 26, 27, 28, 29, 30, 31, 32, 33, 34, 35, 36] (by decide +kernel) (by decide +kernel)
set_option maxRecDepth 20000 in
theorem gX0_placeFor_X0_mostPartly : GoodIn wsX0_placeFor (wsV RX0 103 RX0 yX0_mostPartly wsX0_mostPartly) := goodIn_app (goodIn_of _ (by decide +kernel)) ggX0_placeFor_X0_mostPartly
set_option maxRecDepth 20000 in
theorem ggX0_placeFor_X0_firstEmpty : GoodIn wsX0_placeFor wsX0_firstEmpty := goodIn_r _ [16, 11, 6, 21, 22, 23, 24, 25, 26, 27, 28, 29, 30, 31, 32, 33, 34, 35, 36] (by decide +kernel) (by decide +kernel)
set_option maxRecDepth 20000 in
theorem gX0_placeFor_X0_firstEmpty : GoodIn wsX0_placeFor (wsV RX0 91 RX0 yX0_firstEmpty wsX0_firstEmpty) := goodIn_app (goodIn_of _ (by decide +kernel)) ggX0_placeFor_X0_firstEmpty
set_option maxRecDepth 20000 in
theorem ggX0_placeFor_X0_firstBare : GoodIn wsX0_placeFor wsX0_firstBare := goodIn_r _ [20, 11, 21, 22, 23, 24, 25, 26, 27, 28, 29, 30, 31, 32, 33, 34, 35, 36] (by decide +kernel) (by decide +kernel)
set_option maxRecDepth 20000 in
theorem gX0_placeFor_X0_firstBare : GoodIn wsX0_placeFor (wsV RX0 177 RX0 yX0_firstBare wsX0_firstBare) := goodIn_app (goodIn_of _ (by decide +kernel)) ggX0_placeFor_X0_firstBare
theorem dX0_placeFor_0 : decode cX0_placeFor 0 = .ok (.aload_n 0, 1) := by decide +kernel
theorem dX0_placeFor_1 : decode cX0_placeFor 1 = .ok (.iload_n 1, 1) := by decide +kernel
theorem dX0_placeFor_2 : decode cX0_placeFor 2 = .ok (.invokevirtual 103, 3) := by decide +kernel
theorem dX0_placeFor_5 : decode cX0_placeFor 5 = .ok (.istore_n 2, 1) := by decide +kernel
theorem dX0_placeFor_6 : decode cX0_placeFor 6 = .ok (.iload_n 2, 1) := by decide +kernel
theorem dX0_placeFor_7 : decode cX0_placeFor 7 = .ok (.iconst (-1), 1) := by decide +kernel
theorem dX0_placeFor_8 : decode cX0_placeFor 8 = .ok (.if_icmp .ne 9, 3) := by decide +kernel
theorem dX0_placeFor_11 : decode cX0_placeFor 11 = .ok (.aload_n 0, 1) := by decide +kernel
theorem dX0_placeFor_12 : decode cX0_placeFor 12 = .ok (.iload_n 1, 1) := by decide +kernel
theorem dX0_placeFor_13 : decode cX0_placeFor 13 = .ok (.invokevirtual 91, 3) := by decide +kernel
theorem dX0_placeFor_16 : decode cX0_placeFor 16 = .ok (.istore_n 2, 1) := by decide +kernel
theorem dX0_placeFor_17 : decode cX0_placeFor 17 = .ok (.iload_n 2, 1) := by decide +kernel
theorem dX0_placeFor_18 : decode cX0_placeFor 18 = .ok (.iconst (-1), 1) := by decide +kernel
theorem dX0_placeFor_19 : decode cX0_placeFor 19 = .ok (.if_icmp .ne 8, 3) := by decide +kernel
theorem dX0_placeFor_22 : decode cX0_placeFor 22 = .ok (.aload_n 0, 1) := by decide +kernel
theorem dX0_placeFor_23 : decode cX0_placeFor 23 = .ok (.invokevirtual 177, 3) := by decide +kernel
theorem dX0_placeFor_26 : decode cX0_placeFor 26 = .ok (.istore_n 2, 1) := by decide +kernel
theorem dX0_placeFor_27 : decode cX0_placeFor 27 = .ok (.iload_n 2, 1) := by decide +kernel
theorem dX0_placeFor_28 : decode cX0_placeFor 28 = .ok (.ireturn, 1) := by decide +kernel
set_option maxRecDepth 20000 in
theorem ggX0_mostPartly_X0_isPartly : GoodIn wsX0_mostPartly wsX0_isPartly := goodIn_r _ [6, 7, 1, 8, 9, 10, 11, 12, 13, 14, 15, 16, 17, 18, 19, 20, 21, 22, 23, 24] (by decide +kernel) (by decide +kernel)
set_option maxRecDepth 20000 in
theorem gX0_mostPartly_X0_isPartly : GoodIn wsX0_mostPartly (wsV RX0 180 RX0 yX0_isPartly wsX0_isPartly) := goodIn_app (goodIn_of _ (by decide +kernel)) ggX0_mostPartly_X0_isPartly
theorem dX0_mostPartly_0 : decode cX0_mostPartly 0 = .ok (.iconst (-1), 1) := by decide +kernel
theorem dX0_mostPartly_1 : decode cX0_mostPartly 1 = .ok (.istore_n 2, 1) := by decide +kernel
theorem dX0_mostPartly_2 : decode cX0_mostPartly 2 = .ok (.iconst 0, 1) := by decide +kernel
theorem dX0_mostPartly_3 : decode cX0_mostPartly 3 = .ok (.istore_n 3, 1) := by decide +kernel
theorem dX0_mostPartly_4 : decode cX0_mostPartly 4 = .ok (.iconst 0, 1) := by decide +kernel
theorem dX0_mostPartly_5 : decode cX0_mostPartly 5 = .ok (.istore 4, 2) := by decide +kernel
theorem dX0_mostPartly_7 : decode cX0_mostPartly 7 = .ok (.iload 4, 2) := by decide +kernel
theorem dX0_mostPartly_9 : decode cX0_mostPartly 9 = .ok (.bipush 20, 2) := by decide +kernel
theorem dX0_mostPartly_11 : decode cX0_mostPartly 11 = .ok (.if_icmp .ge 41, 3) := by decide +kernel
theorem dX0_mostPartly_14 : decode cX0_mostPartly 14 = .ok (.aload_n 0, 1) := by decide +kernel
theorem dX0_mostPartly_15 : decode cX0_mostPartly 15 = .ok (.iload 4, 2) := by decide +kernel
theorem dX0_mostPartly_17 : decode cX0_mostPartly 17 = .ok (.iload_n 1, 1) := by decide +kernel
theorem dX0_mostPartly_18 : decode cX0_mostPartly 18 = .ok (.invokevirtual 180, 3) := by decide +kernel
theorem dX0_mostPartly_21 : decode cX0_mostPartly 21 = .ok (.ifCond .eq 25, 3) := by decide +kernel
theorem dX0_mostPartly_24 : decode cX0_mostPartly 24 = .ok (.aload_n 0, 1) := by decide +kernel
theorem dX0_mostPartly_25 : decode cX0_mostPartly 25 = .ok (.getfield 31, 3) := by decide +kernel
theorem dX0_mostPartly_28 : decode cX0_mostPartly 28 = .ok (.iload 4, 2) := by decide +kernel
theorem dX0_mostPartly_30 : decode cX0_mostPartly 30 = .ok (.iaload, 1) := by decide +kernel
theorem dX0_mostPartly_31 : decode cX0_mostPartly 31 = .ok (.iload_n 3, 1) := by decide +kernel
theorem dX0_mostPartly_32 : decode cX0_mostPartly 32 = .ok (.if_icmp .le 14, 3) := by decide +kernel
theorem dX0_mostPartly_35 : decode cX0_mostPartly 35 = .ok (.aload_n 0, 1) := by decide +kernel
theorem dX0_mostPartly_36 : decode cX0_mostPartly 36 = .ok (.getfield 31, 3) := by decide +kernel
theorem dX0_mostPartly_39 : decode cX0_mostPartly 39 = .ok (.iload 4, 2) := by decide +kernel
theorem dX0_mostPartly_41 : decode cX0_mostPartly 41 = .ok (.iaload, 1) := by decide +kernel
theorem dX0_mostPartly_42 : decode cX0_mostPartly 42 = .ok (.istore_n 3, 1) := by decide +kernel
theorem dX0_mostPartly_43 : decode cX0_mostPartly 43 = .ok (.iload 4, 2) := by decide +kernel
theorem dX0_mostPartly_45 : decode cX0_mostPartly 45 = .ok (.istore_n 2, 1) := by decide +kernel
theorem dX0_mostPartly_46 : decode cX0_mostPartly 46 = .ok (.iinc 4 1, 3) := by decide +kernel
theorem dX0_mostPartly_49 : decode cX0_mostPartly 49 = .ok (.goto (-42), 3) := by decide +kernel
theorem dX0_mostPartly_52 : decode cX0_mostPartly 52 = .ok (.iload_n 2, 1) := by decide +kernel
theorem dX0_mostPartly_53 : decode cX0_mostPartly 53 = .ok (.ireturn, 1) := by decide +kernel
set_option maxRecDepth 20000 in
theorem ggX0_leastPartly_X0_isPartly : GoodIn wsX0_leastPartly wsX0_isPartly := goodIn_r _ [6, 7, 1, 8, 9, 10, 11, 12, 13, 14, 15, 16, 17, 18, 19, 20, 21, 22, 23, 24] (by decide +kernel) (by decide +kernel)
set_option maxRecDepth 20000 in
theorem gX0_leastPartly_X0_isPartly : GoodIn wsX0_leastPartly (wsV RX0 180 RX0 yX0_isPartly wsX0_isPartly) := goodIn_app (goodIn_of _ (by decide +kernel)) ggX0_leastPartly_X0_isPartly
theorem dX0_leastPartly_0 : decode cX0_leastPartly 0 = .ok (.iconst (-1), 1) := by decide +kernel
theorem dX0_leastPartly_1 : decode cX0_leastPartly 1 = .ok (.istore_n 2, 1) := by decide +kernel
theorem dX0_leastPartly_2 : decode cX0_leastPartly 2 = .ok (.bipush 64, 2) := by decide +kernel
theorem dX0_leastPartly_4 : decode cX0_leastPartly 4 = .ok (.istore_n 3, 1) := by decide +kernel
theorem dX0_leastPartly_5 : decode cX0_leastPartly 5 = .ok (.iconst 0, 1) := by decide +kernel
theorem dX0_leastPartly_6 : decode cX0_leastPartly 6 = .ok (.istore 4, 2) := by decide +kernel
theorem dX0_leastPartly_8 : decode cX0_leastPartly 8 = .ok (.iload 4, 2) := by decide +kernel
theorem dX0_leastPartly_10 : decode cX0_leastPartly 10 = .ok (.bipush 20, 2) := by decide +kernel
theorem dX0_leastPartly_12 : decode cX0_leastPartly 12 = .ok (.if_icmp .ge 41, 3) := by decide +kernel
theorem dX0_leastPartly_15 : decode cX0_leastPartly 15 = .ok (.aload_n 0, 1) := by decide +kernel
theorem dX0_leastPartly_16 : decode cX0_leastPartly 16 = .ok (.iload 4, 2) := by decide +kernel
theorem dX0_leastPartly_18 : decode cX0_leastPartly 18 = .ok (.iload_n 1, 1) := by decide +kernel
theorem dX0_leastPartly_19 : decode cX0_leastPartly 19 = .ok (.invokevirtual 180, 3) := by decide +kernel
theorem dX0_leastPartly_22 : decode cX0_leastPartly 22 = .ok (.ifCond .eq 25, 3) := by decide +kernel
theorem dX0_leastPartly_25 : decode cX0_leastPartly 25 = .ok (.aload_n 0, 1) := by decide +kernel
theorem dX0_leastPartly_26 : decode cX0_leastPartly 26 = .ok (.getfield 31, 3) := by decide +kernel
theorem dX0_leastPartly_29 : decode cX0_leastPartly 29 = .ok (.iload 4, 2) := by decide +kernel
theorem dX0_leastPartly_31 : decode cX0_leastPartly 31 = .ok (.iaload, 1) := by decide +kernel
theorem dX0_leastPartly_32 : decode cX0_leastPartly 32 = .ok (.iload_n 3, 1) := by decide +kernel
theorem dX0_leastPartly_33 : decode cX0_leastPartly 33 = .ok (.if_icmp .gt 14, 3) := by decide +kernel
theorem dX0_leastPartly_36 : decode cX0_leastPartly 36 = .ok (.aload_n 0, 1) := by decide +kernel
theorem dX0_leastPartly_37 : decode cX0_leastPartly 37 = .ok (.getfield 31, 3) := by decide +kernel
theorem dX0_leastPartly_40 : decode cX0_leastPartly 40 = .ok (.iload 4, 2) := by decide +kernel
theorem dX0_leastPartly_42 : decode cX0_leastPartly 42 = .ok (.iaload, 1) := by decide +kernel
theorem dX0_leastPartly_43 : decode cX0_leastPartly 43 = .ok (.istore_n 3, 1) := by decide +kernel
theorem dX0_leastPartly_44 : decode cX0_leastPartly 44 = .ok (.iload 4, 2) := by decide +kernel
theorem dX0_leastPartly_46 : decode cX0_leastPartly 46 = .ok (.istore_n 2, 1) := by decide +kernel
theorem dX0_leastPartly_47 : decode cX0_leastPartly 47 = .ok (.iinc 4 1, 3) := by decide +kernel
theorem dX0_leastPartly_50 : decode cX0_leastPartly 50 = .ok (.goto (-42), 3) := by decide +kernel
theorem dX0_leastPartly_53 : decode cX0_leastPartly 53 = .ok (.iload_n 2, 1) := by decide +kernel
theorem dX0_leastPartly_54 : decode cX0_leastPartly 54 = .ok (.ireturn, 1) := by decide +kernel
theorem dX0_isPartly_0 : decode cX0_isPartly 0 = .ok (.aload_n 0, 1) := by decide +kernel
theorem dX0_isPartly_1 : decode cX0_isPartly 1 = .ok (.getfield 25, 3) := by decide +kernel
theorem dX0_isPartly_4 : decode cX0_isPartly 4 = .ok (.iload_n 1, 1) := by decide +kernel
theorem dX0_isPartly_5 : decode cX0_isPartly 5 = .ok (.iaload, 1) := by decide +kernel
theorem dX0_isPartly_6 : decode cX0_isPartly 6 = .ok (.iload_n 2, 1) := by decide +kernel
theorem dX0_isPartly_7 : decode cX0_isPartly 7 = .ok (.if_icmp .ne 31, 3) := by decide +kernel
theorem dX0_isPartly_10 : decode cX0_isPartly 10 = .ok (.aload_n 0, 1) := by decide +kernel
theorem dX0_isPartly_11 : decode cX0_isPartly 11 = .ok (.getfield 31, 3) := by decide +kernel
theorem dX0_isPartly_14 : decode cX0_isPartly 14 = .ok (.iload_n 1, 1) := by decide +kernel
theorem dX0_isPartly_15 : decode cX0_isPartly 15 = .ok (.iaload, 1) := by decide +kernel
theorem dX0_isPartly_16 : decode cX0_isPartly 16 = .ok (.ifCond .le 22, 3) := by decide +kernel
theorem dX0_isPartly_19 : decode cX0_isPartly 19 = .ok (.aload_n 0, 1) := by decide +kernel
theorem dX0_isPartly_20 : decode cX0_isPartly 20 = .ok (.getfield 31, 3) := by decide +kernel
theorem dX0_isPartly_23 : decode cX0_isPartly 23 = .ok (.iload_n 1, 1) := by decide +kernel
theorem dX0_isPartly_24 : decode cX0_isPartly 24 = .ok (.iaload, 1) := by decide +kernel
theorem dX0_isPartly_25 : decode cX0_isPartly 25 = .ok (.aload_n 0, 1) := by decide +kernel
theorem dX0_isPartly_26 : decode cX0_isPartly 26 = .ok (.getfield 16, 3) := by decide +kernel
theorem dX0_isPartly_29 : decode cX0_isPartly 29 = .ok (.iload_n 2, 1) := by decide +kernel
theorem dX0_isPartly_30 : decode cX0_isPartly 30 = .ok (.iaload, 1) := by decide +kernel
theorem dX0_isPartly_31 : decode cX0_isPartly 31 = .ok (.if_icmp .ge 7, 3) := by decide +kernel
theorem dX0_isPartly_34 : decode cX0_isPartly 34 = .ok (.iconst 1, 1) := by decide +kernel
theorem dX0_isPartly_35 : decode cX0_isPartly 35 = .ok (.goto 4, 3) := by decide +kernel
theorem dX0_isPartly_38 : decode cX0_isPartly 38 = .ok (.iconst 0, 1) := by decide +kernel
theorem dX0_isPartly_39 : decode cX0_isPartly 39 = .ok (.ireturn, 1) := by decide +kernel
theorem dX0_firstEmpty_0 : decode cX0_firstEmpty 0 = .ok (.iconst 0, 1) := by decide +kernel
theorem dX0_firstEmpty_1 : decode cX0_firstEmpty 1 = .ok (.istore_n 2, 1) := by decide +kernel
theorem dX0_firstEmpty_2 : decode cX0_firstEmpty 2 = .ok (.iload_n 2, 1) := by decide +kernel
theorem dX0_firstEmpty_3 : decode cX0_firstEmpty 3 = .ok (.bipush 20, 2) := by decide +kernel
theorem dX0_firstEmpty_5 : decode cX0_firstEmpty 5 = .ok (.if_icmp .ge 30, 3) := by decide +kernel
theorem dX0_firstEmpty_8 : decode cX0_firstEmpty 8 = .ok (.aload_n 0, 1) := by decide +kernel
theorem dX0_firstEmpty_9 : decode cX0_firstEmpty 9 = .ok (.getfield 25, 3) := by decide +kernel
theorem dX0_firstEmpty_12 : decode cX0_firstEmpty 12 = .ok (.iload_n 2, 1) := by decide +kernel
theorem dX0_firstEmpty_13 : decode cX0_firstEmpty 13 = .ok (.iaload, 1) := by decide +kernel
theorem dX0_firstEmpty_14 : decode cX0_firstEmpty 14 = .ok (.iload_n 1, 1) := by decide +kernel
theorem dX0_firstEmpty_15 : decode cX0_firstEmpty 15 = .ok (.if_icmp .ne 14, 3) := by decide +kernel
theorem dX0_firstEmpty_18 : decode cX0_firstEmpty 18 = .ok (.aload_n 0, 1) := by decide +kernel
theorem dX0_firstEmpty_19 : decode cX0_firstEmpty 19 = .ok (.getfield 31, 3) := by decide +kernel
theorem dX0_firstEmpty_22 : decode cX0_firstEmpty 22 = .ok (.iload_n 2, 1) := by decide +kernel
theorem dX0_firstEmpty_23 : decode cX0_firstEmpty 23 = .ok (.iaload, 1) := by decide +kernel
theorem dX0_firstEmpty_24 : decode cX0_firstEmpty 24 = .ok (.ifCond .ne 5, 3) := by decide +kernel
theorem dX0_firstEmpty_27 : decode cX0_firstEmpty 27 = .ok (.iload_n 2, 1) := by decide +kernel
theorem dX0_firstEmpty_28 : decode cX0_firstEmpty 28 = .ok (.ireturn, 1) := by decide +kernel
theorem dX0_firstEmpty_29 : decode cX0_firstEmpty 29 = .ok (.iinc 2 1, 3) := by decide +kernel
theorem dX0_firstEmpty_32 : decode cX0_firstEmpty 32 = .ok (.goto (-30), 3) := by decide +kernel
theorem dX0_firstEmpty_35 : decode cX0_firstEmpty 35 = .ok (.iconst (-1), 1) := by decide +kernel
theorem dX0_firstEmpty_36 : decode cX0_firstEmpty 36 = .ok (.ireturn, 1) := by decide +kernel
theorem dX0_firstBare_0 : decode cX0_firstBare 0 = .ok (.iconst 0, 1) := by decide +kernel
theorem dX0_firstBare_1 : decode cX0_firstBare 1 = .ok (.istore_n 1, 1) := by decide +kernel
theorem dX0_firstBare_2 : decode cX0_firstBare 2 = .ok (.iload_n 1, 1) := by decide +kernel
theorem dX0_firstBare_3 : decode cX0_firstBare 3 = .ok (.bipush 20, 2) := by decide +kernel
theorem dX0_firstBare_5 : decode cX0_firstBare 5 = .ok (.if_icmp .ge 21, 3) := by decide +kernel
theorem dX0_firstBare_8 : decode cX0_firstBare 8 = .ok (.aload_n 0, 1) := by decide +kernel
theorem dX0_firstBare_9 : decode cX0_firstBare 9 = .ok (.getfield 25, 3) := by decide +kernel
theorem dX0_firstBare_12 : decode cX0_firstBare 12 = .ok (.iload_n 1, 1) := by decide +kernel
