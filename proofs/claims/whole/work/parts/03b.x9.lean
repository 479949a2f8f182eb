set_option maxRecDepth 20000 in
theorem ggX9_init_X2_init : GoodIn wsX9_init wsX2_init := goodIn_r _ [32, 33, 2, 3, 34, 35, 36, 37, 38, 39, 40, 41, 42, 77, 78, 79, 80, 81, 82, 83, 84] rfl (by decide +kernel)
set_option maxRecDepth 20000 in
theorem gX9_init_X2_init : GoodIn wsX9_init (wsX2_init) := ggX9_init_X2_init
set_option maxRecDepth 20000 in
theorem ggX9_init_X1_init : GoodIn wsX9_init wsX1_init := goodIn_r _ [45, 46, 2, 3, 47, 37, 48, 49, 50, 96, 97, 98, 99] rfl (by decide +kernel)
set_option maxRecDepth 20000 in
theorem gX9_init_X1_init : GoodIn wsX9_init (wsX1_init) := ggX9_init_X1_init
set_option maxRecDepth 20000 in
theorem ggX9_init_X8_init : GoodIn wsX9_init wsX8_init := goodIn_r _ [53, 54, 2, 3, 37, 55, 56, 57, 58, 59, 100, 101, 102, 103, 104] rfl (by decide +kernel)
set_option maxRecDepth 20000 in
theorem gX9_init_X8_init : GoodIn wsX9_init (wsX8_init) := ggX9_init_X8_init
set_option maxRecDepth 20000 in
theorem ggX9_init_X5_init : GoodIn wsX9_init wsX5_init := goodIn_r _ [62, 63, 2, 3, 64, 16, 17, 65, 66, 67, 68, 69, 52, 53, 54, 37, 55, 56, 57, 58, 59, 100, 101, 102, 103, 104, 105, 106, 107, 108] rfl (by decide +kernel)
set_option maxRecDepth 20000 in
theorem gX9_init_X5_init : GoodIn wsX9_init (wsX5_init) := ggX9_init_X5_init
set_option maxRecDepth 20000 in
theorem ggX9_init_X6_init : GoodIn wsX9_init wsX6_init := goodIn_r _ [72, 73, 2, 3, 37, 74, 75, 76, 109, 110, 111] rfl (by decide +kernel)
set_option maxRecDepth 20000 in
theorem gX9_init_X6_init : GoodIn wsX9_init (wsX6_init) := ggX9_init_X6_init
theorem dX9_init_0 : decode cX9_init 0 = .ok (.aload_n 0, 1) := by decide +kernel
theorem dX9_init_1 : decode cX9_init 1 = .ok (.invokespecial 5, 3) := by decide +kernel
theorem dX9_init_4 : decode cX9_init 4 = .ok (.aload_n 0, 1) := by decide +kernel
theorem dX9_init_5 : decode cX9_init 5 = .ok (.new 11, 3) := by decide +kernel
theorem dX9_init_8 : decode cX9_init 8 = .ok (.dup, 1) := by decide +kernel
theorem dX9_init_9 : decode cX9_init 9 = .ok (.invokespecial 13, 3) := by decide +kernel
theorem dX9_init_12 : decode cX9_init 12 = .ok (.putfield 14, 3) := by decide +kernel
theorem dX9_init_15 : decode cX9_init 15 = .ok (.aload_n 0, 1) := by decide +kernel
theorem dX9_init_16 : decode cX9_init 16 = .ok (.new 11, 3) := by decide +kernel
theorem dX9_init_19 : decode cX9_init 19 = .ok (.dup, 1) := by decide +kernel
theorem dX9_init_20 : decode cX9_init 20 = .ok (.invokespecial 13, 3) := by decide +kernel
theorem dX9_init_23 : decode cX9_init 23 = .ok (.putfield 18, 3) := by decide +kernel
theorem dX9_init_26 : decode cX9_init 26 = .ok (.aload_n 0, 1) := by decide +kernel
theorem dX9_init_27 : decode cX9_init 27 = .ok (.new 21, 3) := by decide +kernel
theorem dX9_init_30 : decode cX9_init 30 = .ok (.dup, 1) := by decide +kernel
theorem dX9_init_31 : decode cX9_init 31 = .ok (.invokespecial 23, 3) := by decide +kernel
theorem dX9_init_34 : decode cX9_init 34 = .ok (.putfield 24, 3) := by decide +kernel
theorem dX9_init_37 : decode cX9_init 37 = .ok (.aload_n 0, 1) := by decide +kernel
theorem dX9_init_38 : decode cX9_init 38 = .ok (.new 21, 3) := by decide +kernel
theorem dX9_init_41 : decode cX9_init 41 = .ok (.dup, 1) := by decide +kernel
theorem dX9_init_42 : decode cX9_init 42 = .ok (.invokespecial 23, 3) := by decide +kernel
theorem dX9_init_45 : decode cX9_init 45 = .ok (.putfield 28, 3) := by decide +kernel
theorem dX9_init_48 : decode cX9_init 48 = .ok (.aload_n 0, 1) := by decide +kernel
theorem dX9_init_49 : decode cX9_init 49 = .ok (.new 21, 3) := by decide +kernel
theorem dX9_init_52 : decode cX9_init 52 = .ok (.dup, 1) := by decide +kernel
theorem dX9_init_53 : decode cX9_init 53 = .ok (.invokespecial 23, 3) := by decide +kernel
theorem dX9_init_56 : decode cX9_init 56 = .ok (.putfield 31, 3) := by decide +kernel
theorem dX9_init_59 : decode cX9_init 59 = .ok (.aload_n 0, 1) := by decide +kernel
theorem dX9_init_60 : decode cX9_init 60 = .ok (.new 34, 3) := by decide +kernel
theorem dX9_init_63 : decode cX9_init 63 = .ok (.dup, 1) := by decide +kernel
theorem dX9_init_64 : decode cX9_init 64 = .ok (.invokespecial 36, 3) := by decide +kernel
theorem dX9_init_67 : decode cX9_init 67 = .ok (.putfield 37, 3) := by decide +kernel
theorem dX9_init_70 : decode cX9_init 70 = .ok (.aload_n 0, 1) := by decide +kernel
theorem dX9_init_71 : decode cX9_init 71 = .ok (.new 34, 3) := by decide +kernel
theorem dX9_init_74 : decode cX9_init 74 = .ok (.dup, 1) := by decide +kernel
theorem dX9_init_75 : decode cX9_init 75 = .ok (.invokespecial 36, 3) := by decide +kernel
theorem dX9_init_78 : decode cX9_init 78 = .ok (.putfield 41, 3) := by decide +kernel
theorem dX9_init_81 : decode cX9_init 81 = .ok (.aload_n 0, 1) := by decide +kernel
theorem dX9_init_82 : decode cX9_init 82 = .ok (.new 44, 3) := by decide +kernel
theorem dX9_init_85 : decode cX9_init 85 = .ok (.dup, 1) := by decide +kernel
theorem dX9_init_86 : decode cX9_init 86 = .ok (.invokespecial 46, 3) := by decide +kernel
theorem dX9_init_89 : decode cX9_init 89 = .ok (.putfield 47, 3) := by decide +kernel
theorem dX9_init_92 : decode cX9_init 92 = .ok (.aload_n 0, 1) := by decide +kernel
theorem dX9_init_93 : decode cX9_init 93 = .ok (.iconst 4, 1) := by decide +kernel
theorem dX9_init_94 : decode cX9_init 94 = .ok (.anewarray 51, 3) := by decide +kernel
theorem dX9_init_97 : decode cX9_init 97 = .ok (.putfield 53, 3) := by decide +kernel
theorem dX9_init_100 : decode cX9_init 100 = .ok (.aload_n 0, 1) := by decide +kernel
theorem dX9_init_101 : decode cX9_init 101 = .ok (.iconst 0, 1) := by decide +kernel
theorem dX9_init_102 : decode cX9_init 102 = .ok (.putfield 57, 3) := by decide +kernel
theorem dX9_init_105 : decode cX9_init 105 = .ok (.aload_n 0, 1) := by decide +kernel
theorem dX9_init_106 : decode cX9_init 106 = .ok (.iconst 0, 1) := by decide +kernel
theorem dX9_init_107 : decode cX9_init 107 = .ok (.putfield 61, 3) := by decide +kernel
theorem dX9_init_110 : decode cX9_init 110 = .ok (.iconst 0, 1) := by decide +kernel
theorem dX9_init_111 : decode cX9_init 111 = .ok (.istore_n 1, 1) := by decide +kernel
theorem dX9_init_112 : decode cX9_init 112 = .ok (.iload_n 1, 1) := by decide +kernel
theorem dX9_init_113 : decode cX9_init 113 = .ok (.iconst 4, 1) := by decide +kernel
theorem dX9_init_114 : decode cX9_init 114 = .ok (.if_icmp .ge 22, 3) := by decide +kernel
theorem dX9_init_117 : decode cX9_init 117 = .ok (.aload_n 0, 1) := by decide +kernel
theorem dX9_init_118 : decode cX9_init 118 = .ok (.getfield 53, 3) := by decide +kernel
theorem dX9_init_121 : decode cX9_init 121 = .ok (.iload_n 1, 1) := by decide +kernel
theorem dX9_init_122 : decode cX9_init 122 = .ok (.new 51, 3) := by decide +kernel
theorem dX9_init_125 : decode cX9_init 125 = .ok (.dup, 1) := by decide +kernel
theorem dX9_init_126 : decode cX9_init 126 = .ok (.invokespecial 64, 3) := by decide +kernel
theorem dX9_init_129 : decode cX9_init 129 = .ok (.aastore, 1) := by decide +kernel
theorem dX9_init_130 : decode cX9_init 130 = .ok (.iinc 1 1, 3) := by decide +kernel
theorem dX9_init_133 : decode cX9_init 133 = .ok (.goto (-21), 3) := by decide +kernel
theorem dX9_init_136 : decode cX9_init 136 = .ok (.return_, 1) := by decide +kernel
set_option maxRecDepth 20000 in
theorem ggX9_coast_X9_isSheet : GoodIn wsX9_coast wsX9_isSheet := goodIn_r _ [16, 17, 18, 15, 19] rfl (by decide +kernel)
set_option maxRecDepth 20000 in
theorem gX9_coast_X9_isSheet : GoodIn wsX9_coast (va_wsS RX9 65 yX9_isSheet wsX9_isSheet) := goodIn_app (goodIn_of _ (by decide +kernel)) ggX9_coast_X9_isSheet
set_option maxRecDepth 20000 in
theorem ggX9_coast_X9_isLane : GoodIn wsX9_coast wsX9_isLane := goodIn_r _ [22, 17, 18, 15, 19] rfl (by decide +kernel)
set_option maxRecDepth 20000 in
theorem gX9_coast_X9_isLane : GoodIn wsX9_coast (va_wsS RX9 69 yX9_isLane wsX9_isLane) := goodIn_app (goodIn_of _ (by decide +kernel)) ggX9_coast_X9_isLane
set_option maxRecDepth 20000 in
theorem ggX9_coast_X6_isOfAnotherLane : GoodIn wsX9_coast wsX6_isOfAnotherLane := goodIn_r _ [27, 28, 135, 136, 137] rfl (by decide +kernel)
set_option maxRecDepth 20000 in
theorem gX9_coast_X6_isOfAnotherLane : GoodIn wsX9_coast (wsV RX9 72 RX6 yX6_isOfAnotherLane wsX6_isOfAnotherLane) := goodIn_app (goodIn_of _ (by decide +kernel)) ggX9_coast_X6_isOfAnotherLane
set_option maxRecDepth 20000 in
theorem ggX9_coast_X9_faulted : GoodIn wsX9_coast wsX9_faulted := goodIn_r _ [32, 1, 108, 109, 110, 111, 112, 113, 114, 115, 116, 117, 118] rfl (by decide +kernel)
set_option maxRecDepth 20000 in
theorem gX9_coast_X9_faulted : GoodIn wsX9_coast (wsV RX9 75 RX9 yX9_faulted wsX9_faulted) := goodIn_app (goodIn_of _ (by decide +kernel)) ggX9_coast_X9_faulted
set_option maxRecDepth 20000 in
theorem ggX9_coast_X6_isNothing : GoodIn wsX9_coast wsX6_isNothing := goodIn_r _ [36, 28, 135, 136, 137] rfl (by decide +kernel)
set_option maxRecDepth 20000 in
theorem gX9_coast_X6_isNothing : GoodIn wsX9_coast (wsV RX9 79 RX6 yX6_isNothing wsX6_isNothing) := goodIn_app (goodIn_of _ (by decide +kernel)) ggX9_coast_X6_isNothing
set_option maxRecDepth 20000 in
theorem ggX9_coast_X6_hasCells : GoodIn wsX9_coast wsX6_hasCells := goodIn_r _ [40, 41, 135, 136, 137] rfl (by decide +kernel)
set_option maxRecDepth 20000 in
theorem gX9_coast_X6_hasCells : GoodIn wsX9_coast (wsV RX9 83 RX6 yX6_hasCells wsX6_hasCells) := goodIn_app (goodIn_of _ (by decide +kernel)) ggX9_coast_X6_hasCells
set_option maxRecDepth 20000 in
theorem ggX9_coast_X7_init : GoodIn wsX9_coast wsX7_init := goodIn_r _ [44, 45, 46, 47, 48, 49, 50, 51, 119, 120, 121, 122] rfl (by decide +kernel)
set_option maxRecDepth 20000 in
theorem gX9_coast_X7_init : GoodIn wsX9_coast (wsX7_init) := ggX9_coast_X7_init
set_option maxRecDepth 20000 in
theorem ggX9_coast_X7_reads : GoodIn wsX9_coast wsX7_reads := goodIn_r _ [55, 48, 51, 56, 57, 58, 59, 60, 61, 62, 63, 64, 65, 66, 67, 5, 68, 69, 70, 71, 72, 73, 49, 74, 50, 75, 76, 77, 78, 79, 80, 81, 82, 83, 84, 85, 86, 87, 88, 89, 90, 91, 92, 93, 94, 95, 119, 120, 121, 122, 127, 128, 129, 130, 131, 132, 133, 134, 135, 136, 137] rfl (by decide +kernel)
set_option maxRecDepth 20000 in
theorem gX9_coast_X7_reads : GoodIn wsX9_coast (wsV RX9 92 RX7 yX7_reads wsX7_reads) := goodIn_app (goodIn_of _ (by decide +kernel)) ggX9_coast_X7_reads
set_option maxRecDepth 20000 in
theorem ggX9_coast_X2_become : GoodIn wsX9_coast wsX2_become := goodIn_r _ [99, 61, 62, 63, 100, 101, 102, 103, 104, 105, 106, 107, 64, 127, 128, 129, 130, 131, 132, 133, 134] rfl (by decide +kernel)
set_option maxRecDepth 20000 in
theorem gX9_coast_X2_become : GoodIn wsX9_coast (wsV RX9 99 RX2 yX2_become wsX2_become) := goodIn_app (goodIn_of _ (by decide +kernel)) ggX9_coast_X2_become
theorem dX9_coast_0 : decode cX9_coast 0 = .ok (.aload_n 0, 1) := by decide +kernel
theorem dX9_coast_1 : decode cX9_coast 1 = .ok (.iconst 0, 1) := by decide +kernel
theorem dX9_coast_2 : decode cX9_coast 2 = .ok (.putfield 61, 3) := by decide +kernel
theorem dX9_coast_5 : decode cX9_coast 5 = .ok (.iload_n 1, 1) := by decide +kernel
theorem dX9_coast_6 : decode cX9_coast 6 = .ok (.invokestatic 65, 3) := by decide +kernel
theorem dX9_coast_9 : decode cX9_coast 9 = .ok (.ifCond .ne 5, 3) := by decide +kernel
theorem dX9_coast_12 : decode cX9_coast 12 = .ok (.iconst (-1), 1) := by decide +kernel
theorem dX9_coast_13 : decode cX9_coast 13 = .ok (.ireturn, 1) := by decide +kernel
theorem dX9_coast_14 : decode cX9_coast 14 = .ok (.iload_n 2, 1) := by decide +kernel
theorem dX9_coast_15 : decode cX9_coast 15 = .ok (.invokestatic 69, 3) := by decide +kernel
theorem dX9_coast_18 : decode cX9_coast 18 = .ok (.ifCond .ne 6, 3) := by decide +kernel
theorem dX9_coast_21 : decode cX9_coast 21 = .ok (.bipush (-2), 2) := by decide +kernel
theorem dX9_coast_23 : decode cX9_coast 23 = .ok (.ireturn, 1) := by decide +kernel
theorem dX9_coast_24 : decode cX9_coast 24 = .ok (.aload_n 0, 1) := by decide +kernel
theorem dX9_coast_25 : decode cX9_coast 25 = .ok (.getfield 53, 3) := by decide +kernel
theorem dX9_coast_28 : decode cX9_coast 28 = .ok (.iload_n 1, 1) := by decide +kernel
theorem dX9_coast_29 : decode cX9_coast 29 = .ok (.aaload, 1) := by decide +kernel
theorem dX9_coast_30 : decode cX9_coast 30 = .ok (.astore 5, 2) := by decide +kernel
theorem dX9_coast_32 : decode cX9_coast 32 = .ok (.aload 5, 2) := by decide +kernel
theorem dX9_coast_34 : decode cX9_coast 34 = .ok (.iload_n 2, 1) := by decide +kernel
theorem dX9_coast_35 : decode cX9_coast 35 = .ok (.invokevirtual 72, 3) := by decide +kernel
theorem dX9_coast_38 : decode cX9_coast 38 = .ok (.ifCond .eq 9, 3) := by decide +kernel
theorem dX9_coast_41 : decode cX9_coast 41 = .ok (.aload_n 0, 1) := by decide +kernel
theorem dX9_coast_42 : decode cX9_coast 42 = .ok (.iconst 2, 1) := by decide +kernel
theorem dX9_coast_43 : decode cX9_coast 43 = .ok (.invokevirtual 75, 3) := by decide +kernel
theorem dX9_coast_46 : decode cX9_coast 46 = .ok (.ireturn, 1) := by decide +kernel
theorem dX9_coast_47 : decode cX9_coast 47 = .ok (.aload 5, 2) := by decide +kernel
theorem dX9_coast_49 : decode cX9_coast 49 = .ok (.invokevirtual 79, 3) := by decide +kernel
theorem dX9_coast_52 : decode cX9_coast 52 = .ok (.ifCond .eq 9, 3) := by decide +kernel
theorem dX9_coast_55 : decode cX9_coast 55 = .ok (.aload_n 0, 1) := by decide +kernel
theorem dX9_coast_56 : decode cX9_coast 56 = .ok (.iconst 1, 1) := by decide +kernel
theorem dX9_coast_57 : decode cX9_coast 57 = .ok (.invokevirtual 75, 3) := by decide +kernel
theorem dX9_coast_60 : decode cX9_coast 60 = .ok (.ireturn, 1) := by decide +kernel
theorem dX9_coast_61 : decode cX9_coast 61 = .ok (.iload 4, 2) := by decide +kernel
theorem dX9_coast_63 : decode cX9_coast 63 = .ok (.ifCond .ge 9, 3) := by decide +kernel
theorem dX9_coast_66 : decode cX9_coast 66 = .ok (.aload_n 0, 1) := by decide +kernel
theorem dX9_coast_67 : decode cX9_coast 67 = .ok (.iconst 4, 1) := by decide +kernel
theorem dX9_coast_68 : decode cX9_coast 68 = .ok (.invokevirtual 75, 3) := by decide +kernel
theorem dX9_coast_71 : decode cX9_coast 71 = .ok (.ireturn, 1) := by decide +kernel
theorem dX9_coast_72 : decode cX9_coast 72 = .ok (.aload 5, 2) := by decide +kernel
theorem dX9_coast_74 : decode cX9_coast 74 = .ok (.iload_n 3, 1) := by decide +kernel
theorem dX9_coast_75 : decode cX9_coast 75 = .ok (.iload 4, 2) := by decide +kernel
theorem dX9_coast_77 : decode cX9_coast 77 = .ok (.invokevirtual 83, 3) := by decide +kernel
theorem dX9_coast_80 : decode cX9_coast 80 = .ok (.ifCond .ne 9, 3) := by decide +kernel
theorem dX9_coast_83 : decode cX9_coast 83 = .ok (.aload_n 0, 1) := by decide +kernel
theorem dX9_coast_84 : decode cX9_coast 84 = .ok (.iconst 3, 1) := by decide +kernel
theorem dX9_coast_85 : decode cX9_coast 85 = .ok (.invokevirtual 75, 3) := by decide +kernel
theorem dX9_coast_88 : decode cX9_coast 88 = .ok (.ireturn, 1) := by decide +kernel
theorem dX9_coast_89 : decode cX9_coast 89 = .ok (.new 87, 3) := by decide +kernel
theorem dX9_coast_92 : decode cX9_coast 92 = .ok (.dup, 1) := by decide +kernel
theorem dX9_coast_93 : decode cX9_coast 93 = .ok (.aload 5, 2) := by decide +kernel
theorem dX9_coast_95 : decode cX9_coast 95 = .ok (.iload_n 3, 1) := by decide +kernel
theorem dX9_coast_96 : decode cX9_coast 96 = .ok (.iload 4, 2) := by decide +kernel
theorem dX9_coast_98 : decode cX9_coast 98 = .ok (.invokespecial 89, 3) := by decide +kernel
theorem dX9_coast_101 : decode cX9_coast 101 = .ok (.astore 6, 2) := by decide +kernel
theorem dX9_coast_103 : decode cX9_coast 103 = .ok (.aload 6, 2) := by decide +kernel
theorem dX9_coast_105 : decode cX9_coast 105 = .ok (.aload_n 0, 1) := by decide +kernel
theorem dX9_coast_106 : decode cX9_coast 106 = .ok (.getfield 18, 3) := by decide +kernel
theorem dX9_coast_109 : decode cX9_coast 109 = .ok (.invokevirtual 92, 3) := by decide +kernel
theorem dX9_coast_112 : decode cX9_coast 112 = .ok (.ifCond .ne 12, 3) := by decide +kernel
theorem dX9_coast_115 : decode cX9_coast 115 = .ok (.bipush (-100), 2) := by decide +kernel
theorem dX9_coast_117 : decode cX9_coast 117 = .ok (.aload 6, 2) := by decide +kernel
theorem dX9_coast_119 : decode cX9_coast 119 = .ok (.getfield 96, 3) := by decide +kernel
theorem dX9_coast_122 : decode cX9_coast 122 = .ok (.isub, 1) := by decide +kernel
theorem dX9_coast_123 : decode cX9_coast 123 = .ok (.ireturn, 1) := by decide +kernel
theorem dX9_coast_124 : decode cX9_coast 124 = .ok (.aload_n 0, 1) := by decide +kernel
theorem dX9_coast_125 : decode cX9_coast 125 = .ok (.getfield 14, 3) := by decide +kernel
theorem dX9_coast_128 : decode cX9_coast 128 = .ok (.aload_n 0, 1) := by decide +kernel
theorem dX9_coast_129 : decode cX9_coast 129 = .ok (.getfield 18, 3) := by decide +kernel
theorem dX9_coast_132 : decode cX9_coast 132 = .ok (.invokevirtual 99, 3) := by decide +kernel
theorem dX9_coast_135 : decode cX9_coast 135 = .ok (.aload_n 0, 1) := by decide +kernel
theorem dX9_coast_136 : decode cX9_coast 136 = .ok (.getfield 24, 3) := by decide +kernel
theorem dX9_coast_139 : decode cX9_coast 139 = .ok (.iconst 0, 1) := by decide +kernel
theorem dX9_coast_140 : decode cX9_coast 140 = .ok (.putfield 103, 3) := by decide +kernel
theorem dX9_coast_143 : decode cX9_coast 143 = .ok (.aload_n 0, 1) := by decide +kernel
theorem dX9_coast_144 : decode cX9_coast 144 = .ok (.getfield 31, 3) := by decide +kernel
theorem dX9_coast_147 : decode cX9_coast 147 = .ok (.iconst 0, 1) := by decide +kernel
theorem dX9_coast_148 : decode cX9_coast 148 = .ok (.putfield 103, 3) := by decide +kernel
theorem dX9_coast_151 : decode cX9_coast 151 = .ok (.aload_n 0, 1) := by decide +kernel
theorem dX9_coast_152 : decode cX9_coast 152 = .ok (.getfield 14, 3) := by decide +kernel
theorem dX9_coast_155 : decode cX9_coast 155 = .ok (.getfield 106, 3) := by decide +kernel
theorem dX9_coast_158 : decode cX9_coast 158 = .ok (.ireturn, 1) := by decide +kernel
set_option maxRecDepth 20000 in
theorem ggX9_sky_X9_isWithin : GoodIn wsX9_sky wsX9_isWithin := goodIn_r _ [6] rfl (by decide +kernel)
set_option maxRecDepth 20000 in
theorem gX9_sky_X9_isWithin : GoodIn wsX9_sky (va_wsS RX9 109 yX9_isWithin wsX9_isWithin) := goodIn_app (goodIn_of _ (by decide +kernel)) ggX9_sky_X9_isWithin
set_option maxRecDepth 20000 in
theorem ggX9_sky_X2_isThere : GoodIn wsX9_sky wsX2_isThere := goodIn_r _ [11, 12, 24, 25, 26, 27, 28, 29, 30, 31] rfl (by decide +kernel)
set_option maxRecDepth 20000 in
theorem gX9_sky_X2_isThere : GoodIn wsX9_sky (wsV RX9 113 RX2 yX2_isThere wsX2_isThere) := goodIn_app (goodIn_of _ (by decide +kernel)) ggX9_sky_X2_isThere
theorem dX9_sky_0 : decode cX9_sky 0 = .ok (.iload_n 1, 1) := by decide +kernel
theorem dX9_sky_1 : decode cX9_sky 1 = .ok (.iconst 0, 1) := by decide +kernel
theorem dX9_sky_2 : decode cX9_sky 2 = .ok (.iconst 5, 1) := by decide +kernel
theorem dX9_sky_3 : decode cX9_sky 3 = .ok (.invokestatic 109, 3) := by decide +kernel
theorem dX9_sky_6 : decode cX9_sky 6 = .ok (.ifCond .ne 6, 3) := by decide +kernel
theorem dX9_sky_9 : decode cX9_sky 9 = .ok (.bipush (-2), 2) := by decide +kernel
theorem dX9_sky_11 : decode cX9_sky 11 = .ok (.ireturn, 1) := by decide +kernel
theorem dX9_sky_12 : decode cX9_sky 12 = .ok (.aload_n 0, 1) := by decide +kernel
theorem dX9_sky_13 : decode cX9_sky 13 = .ok (.getfield 14, 3) := by decide +kernel
theorem dX9_sky_16 : decode cX9_sky 16 = .ok (.invokevirtual 113, 3) := by decide +kernel
theorem dX9_sky_19 : decode cX9_sky 19 = .ok (.ifCond .ne 6, 3) := by decide +kernel
theorem dX9_sky_22 : decode cX9_sky 22 = .ok (.bipush (-3), 2) := by decide +kernel
theorem dX9_sky_24 : decode cX9_sky 24 = .ok (.ireturn, 1) := by decide +kernel
theorem dX9_sky_25 : decode cX9_sky 25 = .ok (.aload_n 0, 1) := by decide +kernel
theorem dX9_sky_26 : decode cX9_sky 26 = .ok (.getfield 14, 3) := by decide +kernel
theorem dX9_sky_29 : decode cX9_sky 29 = .ok (.getfield 116, 3) := by decide +kernel
theorem dX9_sky_32 : decode cX9_sky 32 = .ok (.iload_n 1, 1) := by decide +kernel
theorem dX9_sky_33 : decode cX9_sky 33 = .ok (.iaload, 1) := by decide +kernel
theorem dX9_sky_34 : decode cX9_sky 34 = .ok (.ireturn, 1) := by decide +kernel
set_option maxRecDepth 20000 in
theorem ggX9_shade_X2_hasSpot : GoodIn wsX9_shade wsX2_hasSpot := goodIn_r _ [7, 8, 20, 21, 22, 23, 24, 25, 26, 27] rfl (by decide +kernel)
set_option maxRecDepth 20000 in
theorem gX9_shade_X2_hasSpot : GoodIn wsX9_shade (wsV RX9 120 RX2 yX2_hasSpot wsX2_hasSpot) := goodIn_app (goodIn_of _ (by decide +kernel)) ggX9_shade_X2_hasSpot
theorem dX9_shade_0 : decode cX9_shade 0 = .ok (.aload_n 0, 1) := by decide +kernel
theorem dX9_shade_1 : decode cX9_shade 1 = .ok (.getfield 14, 3) := by decide +kernel
theorem dX9_shade_4 : decode cX9_shade 4 = .ok (.iload_n 1, 1) := by decide +kernel
theorem dX9_shade_5 : decode cX9_shade 5 = .ok (.invokevirtual 120, 3) := by decide +kernel
theorem dX9_shade_8 : decode cX9_shade 8 = .ok (.ifCond .ne 5, 3) := by decide +kernel
theorem dX9_shade_11 : decode cX9_shade 11 = .ok (.iconst (-1), 1) := by decide +kernel
theorem dX9_shade_12 : decode cX9_shade 12 = .ok (.ireturn, 1) := by decide +kernel
theorem dX9_shade_13 : decode cX9_shade 13 = .ok (.aload_n 0, 1) := by decide +kernel
theorem dX9_shade_14 : decode cX9_shade 14 = .ok (.getfield 14, 3) := by decide +kernel
theorem dX9_shade_17 : decode cX9_shade 17 = .ok (.getfield 123, 3) := by decide +kernel
theorem dX9_shade_20 : decode cX9_shade 20 = .ok (.iload_n 1, 1) := by decide +kernel
theorem dX9_shade_21 : decode cX9_shade 21 = .ok (.iaload, 1) := by decide +kernel
theorem dX9_shade_22 : decode cX9_shade 22 = .ok (.ireturn, 1) := by decide +kernel
set_option maxRecDepth 20000 in
theorem ggX9_ofLamp_X2_hasLamp : GoodIn wsX9_ofLamp wsX2_hasLamp := goodIn_r _ [8, 9, 25, 26, 27, 28, 29, 30, 31, 32] rfl (by decide +kernel)
set_option maxRecDepth 20000 in
theorem gX9_ofLamp_X2_hasLamp : GoodIn wsX9_ofLamp (wsV RX9 126 RX2 yX2_hasLamp wsX2_hasLamp) := goodIn_app (goodIn_of _ (by decide +kernel)) ggX9_ofLamp_X2_hasLamp
set_option maxRecDepth 20000 in
theorem ggX9_ofLamp_X9_isWithin : GoodIn wsX9_ofLamp wsX9_isWithin := goodIn_r _ [13] rfl (by decide +kernel)
set_option maxRecDepth 20000 in
theorem gX9_ofLamp_X9_isWithin : GoodIn wsX9_ofLamp (va_wsS RX9 109 yX9_isWithin wsX9_isWithin) := goodIn_app (goodIn_of _ (by decide +kernel)) ggX9_ofLamp_X9_isWithin
theorem dX9_ofLamp_0 : decode cX9_ofLamp 0 = .ok (.aload_n 0, 1) := by decide +kernel
theorem dX9_ofLamp_1 : decode cX9_ofLamp 1 = .ok (.getfield 14, 3) := by decide +kernel
theorem dX9_ofLamp_4 : decode cX9_ofLamp 4 = .ok (.iload_n 1, 1) := by decide +kernel
theorem dX9_ofLamp_5 : decode cX9_ofLamp 5 = .ok (.invokevirtual 126, 3) := by decide +kernel
theorem dX9_ofLamp_8 : decode cX9_ofLamp 8 = .ok (.ifCond .ne 5, 3) := by decide +kernel
theorem dX9_ofLamp_11 : decode cX9_ofLamp 11 = .ok (.iconst (-1), 1) := by decide +kernel
theorem dX9_ofLamp_12 : decode cX9_ofLamp 12 = .ok (.ireturn, 1) := by decide +kernel
theorem dX9_ofLamp_13 : decode cX9_ofLamp 13 = .ok (.iload_n 2, 1) := by decide +kernel
theorem dX9_ofLamp_14 : decode cX9_ofLamp 14 = .ok (.iconst 0, 1) := by decide +kernel
theorem dX9_ofLamp_15 : decode cX9_ofLamp 15 = .ok (.iconst 1, 1) := by decide +kernel
theorem dX9_ofLamp_16 : decode cX9_ofLamp 16 = .ok (.invokestatic 109, 3) := by decide +kernel
theorem dX9_ofLamp_19 : decode cX9_ofLamp 19 = .ok (.ifCond .ne 6, 3) := by decide +kernel
theorem dX9_ofLamp_22 : decode cX9_ofLamp 22 = .ok (.bipush (-2), 2) := by decide +kernel
theorem dX9_ofLamp_24 : decode cX9_ofLamp 24 = .ok (.ireturn, 1) := by decide +kernel
theorem dX9_ofLamp_25 : decode cX9_ofLamp 25 = .ok (.iload_n 2, 1) := by decide +kernel
theorem dX9_ofLamp_26 : decode cX9_ofLamp 26 = .ok (.ifCond .ne 15, 3) := by decide +kernel
theorem dX9_ofLamp_29 : decode cX9_ofLamp 29 = .ok (.aload_n 0, 1) := by decide +kernel
theorem dX9_ofLamp_30 : decode cX9_ofLamp 30 = .ok (.getfield 14, 3) := by decide +kernel
theorem dX9_ofLamp_33 : decode cX9_ofLamp 33 = .ok (.getfield 129, 3) := by decide +kernel
theorem dX9_ofLamp_36 : decode cX9_ofLamp 36 = .ok (.iload_n 1, 1) := by decide +kernel
theorem dX9_ofLamp_37 : decode cX9_ofLamp 37 = .ok (.iaload, 1) := by decide +kernel
theorem dX9_ofLamp_38 : decode cX9_ofLamp 38 = .ok (.goto 12, 3) := by decide +kernel
theorem dX9_ofLamp_41 : decode cX9_ofLamp 41 = .ok (.aload_n 0, 1) := by decide +kernel
theorem dX9_ofLamp_42 : decode cX9_ofLamp 42 = .ok (.getfield 14, 3) := by decide +kernel
theorem dX9_ofLamp_45 : decode cX9_ofLamp 45 = .ok (.getfield 132, 3) := by decide +kernel
theorem dX9_ofLamp_48 : decode cX9_ofLamp 48 = .ok (.iload_n 1, 1) := by decide +kernel
theorem dX9_ofLamp_49 : decode cX9_ofLamp 49 = .ok (.iaload, 1) := by decide +kernel
theorem dX9_ofLamp_50 : decode cX9_ofLamp 50 = .ok (.ireturn, 1) := by decide +kernel
set_option maxRecDepth 20000 in
theorem ggX9_cloud_X2_isThere : GoodIn wsX9_cloud wsX2_isThere := goodIn_r _ [7, 8, 27, 28, 29, 30, 31, 32, 33, 34] rfl (by decide +kernel)
set_option maxRecDepth 20000 in
theorem gX9_cloud_X2_isThere : GoodIn wsX9_cloud (wsV RX9 113 RX2 yX2_isThere wsX2_isThere) := goodIn_app (goodIn_of _ (by decide +kernel)) ggX9_cloud_X2_isThere
set_option maxRecDepth 20000 in
theorem ggX9_cloud_X9_isDay : GoodIn wsX9_cloud wsX9_isDay := goodIn_r _ [12, 13, 14, 11, 15] rfl (by decide +kernel)
set_option maxRecDepth 20000 in
theorem gX9_cloud_X9_isDay : GoodIn wsX9_cloud (va_wsS RX9 135 yX9_isDay wsX9_isDay) := goodIn_app (goodIn_of _ (by decide +kernel)) ggX9_cloud_X9_isDay
set_option maxRecDepth 20000 in
theorem ggX9_cloud_X9_isWithin : GoodIn wsX9_cloud wsX9_isWithin := goodIn_r _ [15] rfl (by decide +kernel)
set_option maxRecDepth 20000 in
theorem gX9_cloud_X9_isWithin : GoodIn wsX9_cloud (va_wsS RX9 109 yX9_isWithin wsX9_isWithin) := goodIn_app (goodIn_of _ (by decide +kernel)) ggX9_cloud_X9_isWithin
theorem dX9_cloud_0 : decode cX9_cloud 0 = .ok (.aload_n 0, 1) := by decide +kernel
theorem dX9_cloud_1 : decode cX9_cloud 1 = .ok (.getfield 14, 3) := by decide +kernel
theorem dX9_cloud_4 : decode cX9_cloud 4 = .ok (.invokevirtual 113, 3) := by decide +kernel
theorem dX9_cloud_7 : decode cX9_cloud 7 = .ok (.ifCond .ne 6, 3) := by decide +kernel
theorem dX9_cloud_10 : decode cX9_cloud 10 = .ok (.bipush (-3), 2) := by decide +kernel
theorem dX9_cloud_12 : decode cX9_cloud 12 = .ok (.ireturn, 1) := by decide +kernel
theorem dX9_cloud_13 : decode cX9_cloud 13 = .ok (.iload_n 1, 1) := by decide +kernel
theorem dX9_cloud_14 : decode cX9_cloud 14 = .ok (.invokestatic 135, 3) := by decide +kernel
theorem dX9_cloud_17 : decode cX9_cloud 17 = .ok (.ifCond .eq 13, 3) := by decide +kernel
theorem dX9_cloud_20 : decode cX9_cloud 20 = .ok (.iload_n 2, 1) := by decide +kernel
theorem dX9_cloud_21 : decode cX9_cloud 21 = .ok (.iconst 0, 1) := by decide +kernel
theorem dX9_cloud_22 : decode cX9_cloud 22 = .ok (.bipush 9, 2) := by decide +kernel
theorem dX9_cloud_24 : decode cX9_cloud 24 = .ok (.invokestatic 109, 3) := by decide +kernel
theorem dX9_cloud_27 : decode cX9_cloud 27 = .ok (.ifCond .ne 6, 3) := by decide +kernel
theorem dX9_cloud_30 : decode cX9_cloud 30 = .ok (.bipush (-2), 2) := by decide +kernel
theorem dX9_cloud_32 : decode cX9_cloud 32 = .ok (.ireturn, 1) := by decide +kernel
theorem dX9_cloud_33 : decode cX9_cloud 33 = .ok (.aload_n 0, 1) := by decide +kernel
theorem dX9_cloud_34 : decode cX9_cloud 34 = .ok (.getfield 14, 3) := by decide +kernel
theorem dX9_cloud_37 : decode cX9_cloud 37 = .ok (.getfield 138, 3) := by decide +kernel
theorem dX9_cloud_40 : decode cX9_cloud 40 = .ok (.iload_n 1, 1) := by decide +kernel
theorem dX9_cloud_41 : decode cX9_cloud 41 = .ok (.iaload, 1) := by decide +kernel
theorem dX9_cloud_42 : decode cX9_cloud 42 = .ok (.istore_n 3, 1) := by decide +kernel
theorem dX9_cloud_43 : decode cX9_cloud 43 = .ok (.aload_n 0, 1) := by decide +kernel
theorem dX9_cloud_44 : decode cX9_cloud 44 = .ok (.getfield 14, 3) := by decide +kernel
theorem dX9_cloud_47 : decode cX9_cloud 47 = .ok (.getfield 138, 3) := by decide +kernel
theorem dX9_cloud_50 : decode cX9_cloud 50 = .ok (.iload_n 1, 1) := by decide +kernel
theorem dX9_cloud_51 : decode cX9_cloud 51 = .ok (.iload_n 2, 1) := by decide +kernel
theorem dX9_cloud_52 : decode cX9_cloud 52 = .ok (.iastore, 1) := by decide +kernel
theorem dX9_cloud_53 : decode cX9_cloud 53 = .ok (.iload_n 3, 1) := by decide +kernel
theorem dX9_cloud_54 : decode cX9_cloud 54 = .ok (.ireturn, 1) := by decide +kernel
set_option maxRecDepth 20000 in
theorem ggX9_age_X9_isWithin : GoodIn wsX9_age wsX9_isWithin := goodIn_r _ [6] rfl (by decide +kernel)
set_option maxRecDepth 20000 in
theorem gX9_age_X9_isWithin : GoodIn wsX9_age (va_wsS RX9 109 yX9_isWithin wsX9_isWithin) := goodIn_app (goodIn_of _ (by decide +kernel)) ggX9_age_X9_isWithin
set_option maxRecDepth 20000 in
theorem ggX9_age_X2_isThere : GoodIn wsX9_age wsX2_isThere := goodIn_r _ [11, 12, 24, 25, 26, 27, 28, 29, 30, 31] rfl (by decide +kernel)
set_option maxRecDepth 20000 in
theorem gX9_age_X2_isThere : GoodIn wsX9_age (wsV RX9 113 RX2 yX2_isThere wsX2_isThere) := goodIn_app (goodIn_of _ (by decide +kernel)) ggX9_age_X2_isThere
theorem dX9_age_0 : decode cX9_age 0 = .ok (.iload_n 1, 1) := by decide +kernel
theorem dX9_age_1 : decode cX9_age 1 = .ok (.iconst 1, 1) := by decide +kernel
theorem dX9_age_2 : decode cX9_age 2 = .ok (.bipush 12, 2) := by decide +kernel
theorem dX9_age_4 : decode cX9_age 4 = .ok (.invokestatic 109, 3) := by decide +kernel
theorem dX9_age_7 : decode cX9_age 7 = .ok (.ifCond .ne 6, 3) := by decide +kernel
theorem dX9_age_10 : decode cX9_age 10 = .ok (.bipush (-2), 2) := by decide +kernel
theorem dX9_age_12 : decode cX9_age 12 = .ok (.ireturn, 1) := by decide +kernel
theorem dX9_age_13 : decode cX9_age 13 = .ok (.aload_n 0, 1) := by decide +kernel
theorem dX9_age_14 : decode cX9_age 14 = .ok (.getfield 14, 3) := by decide +kernel
theorem dX9_age_17 : decode cX9_age 17 = .ok (.invokevirtual 113, 3) := by decide +kernel
theorem dX9_age_20 : decode cX9_age 20 = .ok (.ifCond .ne 6, 3) := by decide +kernel
theorem dX9_age_23 : decode cX9_age 23 = .ok (.bipush (-3), 2) := by decide +kernel
theorem dX9_age_25 : decode cX9_age 25 = .ok (.ireturn, 1) := by decide +kernel
theorem dX9_age_26 : decode cX9_age 26 = .ok (.aload_n 0, 1) := by decide +kernel
theorem dX9_age_27 : decode cX9_age 27 = .ok (.getfield 14, 3) := by decide +kernel
theorem dX9_age_30 : decode cX9_age 30 = .ok (.getfield 141, 3) := by decide +kernel
theorem dX9_age_33 : decode cX9_age 33 = .ok (.istore_n 2, 1) := by decide +kernel
theorem dX9_age_34 : decode cX9_age 34 = .ok (.aload_n 0, 1) := by decide +kernel
theorem dX9_age_35 : decode cX9_age 35 = .ok (.getfield 14, 3) := by decide +kernel
theorem dX9_age_38 : decode cX9_age 38 = .ok (.iload_n 1, 1) := by decide +kernel
theorem dX9_age_39 : decode cX9_age 39 = .ok (.putfield 141, 3) := by decide +kernel
theorem dX9_age_42 : decode cX9_age 42 = .ok (.iload_n 2, 1) := by decide +kernel
theorem dX9_age_43 : decode cX9_age 43 = .ok (.ireturn, 1) := by decide +kernel
set_option maxRecDepth 20000 in
theorem ggX9_move_X2_hasLamp : GoodIn wsX9_move wsX2_hasLamp := goodIn_r _ [7, 8, 41, 42, 43, 44, 45, 46, 47, 48] rfl (by decide +kernel)
set_option maxRecDepth 20000 in
theorem gX9_move_X2_hasLamp : GoodIn wsX9_move (wsV RX9 126 RX2 yX2_hasLamp wsX2_hasLamp) := goodIn_app (goodIn_of _ (by decide +kernel)) ggX9_move_X2_hasLamp
set_option maxRecDepth 20000 in
theorem ggX9_move_X2_hasSpot : GoodIn wsX9_move wsX2_hasSpot := goodIn_r _ [12, 13, 41, 42, 43, 44, 45, 46, 47, 48] rfl (by decide +kernel)
set_option maxRecDepth 20000 in
theorem gX9_move_X2_hasSpot : GoodIn wsX9_move (wsV RX9 120 RX2 yX2_hasSpot wsX2_hasSpot) := goodIn_app (goodIn_of _ (by decide +kernel)) ggX9_move_X2_hasSpot
set_option maxRecDepth 20000 in
theorem ggX9_move_X9_isWatch : GoodIn wsX9_move wsX9_isWatch := goodIn_r _ [17, 18, 19, 16, 20] rfl (by decide +kernel)
set_option maxRecDepth 20000 in
theorem gX9_move_X9_isWatch : GoodIn wsX9_move (va_wsS RX9 144 yX9_isWatch wsX9_isWatch) := goodIn_app (goodIn_of _ (by decide +kernel)) ggX9_move_X9_isWatch
set_option maxRecDepth 20000 in
theorem ggX9_move_X1_append : GoodIn wsX9_move wsX1_append := goodIn_r _ [25, 26, 27, 28, 29, 49, 50, 51, 52] rfl (by decide +kernel)
set_option maxRecDepth 20000 in
theorem gX9_move_X1_append : GoodIn wsX9_move (wsV RX9 147 RX1 yX1_append wsX1_append) := goodIn_app (goodIn_of _ (by decide +kernel)) ggX9_move_X1_append
theorem dX9_move_0 : decode cX9_move 0 = .ok (.aload_n 0, 1) := by decide +kernel
theorem dX9_move_1 : decode cX9_move 1 = .ok (.getfield 14, 3) := by decide +kernel
theorem dX9_move_4 : decode cX9_move 4 = .ok (.iload_n 1, 1) := by decide +kernel
theorem dX9_move_5 : decode cX9_move 5 = .ok (.invokevirtual 126, 3) := by decide +kernel
theorem dX9_move_8 : decode cX9_move 8 = .ok (.ifCond .eq 14, 3) := by decide +kernel
theorem dX9_move_11 : decode cX9_move 11 = .ok (.aload_n 0, 1) := by decide +kernel
theorem dX9_move_12 : decode cX9_move 12 = .ok (.getfield 14, 3) := by decide +kernel
theorem dX9_move_15 : decode cX9_move 15 = .ok (.iload_n 3, 1) := by decide +kernel
theorem dX9_move_16 : decode cX9_move 16 = .ok (.invokevirtual 120, 3) := by decide +kernel
theorem dX9_move_19 : decode cX9_move 19 = .ok (.ifCond .ne 5, 3) := by decide +kernel
theorem dX9_move_22 : decode cX9_move 22 = .ok (.iconst (-1), 1) := by decide +kernel
theorem dX9_move_23 : decode cX9_move 23 = .ok (.ireturn, 1) := by decide +kernel
theorem dX9_move_24 : decode cX9_move 24 = .ok (.iload_n 2, 1) := by decide +kernel
theorem dX9_move_25 : decode cX9_move 25 = .ok (.invokestatic 144, 3) := by decide +kernel
theorem dX9_move_28 : decode cX9_move 28 = .ok (.ifCond .ne 6, 3) := by decide +kernel
theorem dX9_move_31 : decode cX9_move 31 = .ok (.bipush (-2), 2) := by decide +kernel
theorem dX9_move_33 : decode cX9_move 33 = .ok (.ireturn, 1) := by decide +kernel
theorem dX9_move_34 : decode cX9_move 34 = .ok (.aload_n 0, 1) := by decide +kernel
theorem dX9_move_35 : decode cX9_move 35 = .ok (.getfield 24, 3) := by decide +kernel
theorem dX9_move_38 : decode cX9_move 38 = .ok (.iload_n 1, 1) := by decide +kernel
theorem dX9_move_39 : decode cX9_move 39 = .ok (.iload_n 2, 1) := by decide +kernel
theorem dX9_move_40 : decode cX9_move 40 = .ok (.iload_n 3, 1) := by decide +kernel
theorem dX9_move_41 : decode cX9_move 41 = .ok (.invokevirtual 147, 3) := by decide +kernel
theorem dX9_move_44 : decode cX9_move 44 = .ok (.ireturn, 1) := by decide +kernel
set_option maxRecDepth 20000 in
theorem ggX9_undo_X1_takeBack : GoodIn wsX9_undo wsX1_takeBack := goodIn_r _ [6, 7, 19, 20, 21, 22] rfl (by decide +kernel)
set_option maxRecDepth 20000 in
theorem gX9_undo_X1_takeBack : GoodIn wsX9_undo (wsV RX9 151 RX1 yX1_takeBack wsX1_takeBack) := goodIn_app (goodIn_of _ (by decide +kernel)) ggX9_undo_X1_takeBack
theorem dX9_undo_0 : decode cX9_undo 0 = .ok (.aload_n 0, 1) := by decide +kernel
theorem dX9_undo_1 : decode cX9_undo 1 = .ok (.getfield 24, 3) := by decide +kernel
theorem dX9_undo_4 : decode cX9_undo 4 = .ok (.iload_n 1, 1) := by decide +kernel
theorem dX9_undo_5 : decode cX9_undo 5 = .ok (.invokevirtual 151, 3) := by decide +kernel
theorem dX9_undo_8 : decode cX9_undo 8 = .ok (.ireturn, 1) := by decide +kernel
set_option maxRecDepth 20000 in
theorem ggX9_where_X2_hasLamp : GoodIn wsX9_where wsX2_hasLamp := goodIn_r _ [9, 10, 86, 87, 88, 89, 90, 91, 92, 93] rfl (by decide +kernel)
set_option maxRecDepth 20000 in
theorem gX9_where_X2_hasLamp : GoodIn wsX9_where (wsV RX9 126 RX2 yX2_hasLamp wsX2_hasLamp) := goodIn_app (goodIn_of _ (by decide +kernel)) ggX9_where_X2_hasLamp
set_option maxRecDepth 20000 in
theorem ggX9_where_X9_isWatch : GoodIn wsX9_where wsX9_isWatch := goodIn_r _ [14, 15, 16, 13, 17] rfl (by decide +kernel)
set_option maxRecDepth 20000 in
theorem gX9_where_X9_isWatch : GoodIn wsX9_where (va_wsS RX9 144 yX9_isWatch wsX9_isWatch) := goodIn_app (goodIn_of _ (by decide +kernel)) ggX9_where_X9_isWatch
set_option maxRecDepth 20000 in
theorem ggX9_where_X8_reckon : GoodIn wsX9_where wsX8_reckon := goodIn_r _ [22, 23, 24, 25, 26, 27, 21, 28, 29, 30, 31, 32, 33, 34, 35, 36, 37, 38, 39, 40, 41, 8, 42, 43, 44, 45, 46, 47, 48, 49, 50, 51, 52, 53, 54, 55, 56, 57, 58, 59, 60, 61, 62, 63, 64, 65, 66, 67, 68, 86, 87, 88, 89, 90, 91, 92, 93, 81, 82, 83, 84, 85, 94, 95, 96, 97] rfl (by decide +kernel)
set_option maxRecDepth 20000 in
theorem gX9_where_X8_reckon : GoodIn wsX9_where (wsV RX9 154 RX8 yX8_reckon wsX8_reckon) := goodIn_app (goodIn_of _ (by decide +kernel)) ggX9_where_X8_reckon
set_option maxRecDepth 20000 in
theorem ggX9_where_X8_at : GoodIn wsX9_where wsX8_at := goodIn_r _ [38] rfl (by decide +kernel)
set_option maxRecDepth 20000 in
theorem gX9_where_X8_at : GoodIn wsX9_where (va_wsS RX9 161 yX8_at wsX8_at) := goodIn_app (goodIn_of _ (by decide +kernel)) ggX9_where_X8_at
theorem dX9_where_0 : decode cX9_where 0 = .ok (.aload_n 0, 1) := by decide +kernel
theorem dX9_where_1 : decode cX9_where 1 = .ok (.getfield 14, 3) := by decide +kernel
theorem dX9_where_4 : decode cX9_where 4 = .ok (.iload_n 1, 1) := by decide +kernel
theorem dX9_where_5 : decode cX9_where 5 = .ok (.invokevirtual 126, 3) := by decide +kernel
theorem dX9_where_8 : decode cX9_where 8 = .ok (.ifCond .ne 5, 3) := by decide +kernel
theorem dX9_where_11 : decode cX9_where 11 = .ok (.iconst (-1), 1) := by decide +kernel
theorem dX9_where_12 : decode cX9_where 12 = .ok (.ireturn, 1) := by decide +kernel
theorem dX9_where_13 : decode cX9_where 13 = .ok (.iload_n 2, 1) := by decide +kernel
theorem dX9_where_14 : decode cX9_where 14 = .ok (.invokestatic 144, 3) := by decide +kernel
theorem dX9_where_17 : decode cX9_where 17 = .ok (.ifCond .ne 6, 3) := by decide +kernel
theorem dX9_where_20 : decode cX9_where 20 = .ok (.bipush (-2), 2) := by decide +kernel
theorem dX9_where_22 : decode cX9_where 22 = .ok (.ireturn, 1) := by decide +kernel
theorem dX9_where_23 : decode cX9_where 23 = .ok (.aload_n 0, 1) := by decide +kernel
theorem dX9_where_24 : decode cX9_where 24 = .ok (.getfield 37, 3) := by decide +kernel
theorem dX9_where_27 : decode cX9_where 27 = .ok (.aload_n 0, 1) := by decide +kernel
theorem dX9_where_28 : decode cX9_where 28 = .ok (.getfield 14, 3) := by decide +kernel
theorem dX9_where_31 : decode cX9_where 31 = .ok (.aload_n 0, 1) := by decide +kernel
theorem dX9_where_32 : decode cX9_where 32 = .ok (.getfield 24, 3) := by decide +kernel
theorem dX9_where_35 : decode cX9_where 35 = .ok (.invokevirtual 154, 3) := by decide +kernel
theorem dX9_where_38 : decode cX9_where 38 = .ok (.aload_n 0, 1) := by decide +kernel
theorem dX9_where_39 : decode cX9_where 39 = .ok (.getfield 37, 3) := by decide +kernel
theorem dX9_where_42 : decode cX9_where 42 = .ok (.getfield 158, 3) := by decide +kernel
theorem dX9_where_45 : decode cX9_where 45 = .ok (.iload_n 2, 1) := by decide +kernel
theorem dX9_where_46 : decode cX9_where 46 = .ok (.iload_n 1, 1) := by decide +kernel
theorem dX9_where_47 : decode cX9_where 47 = .ok (.invokestatic 161, 3) := by decide +kernel
theorem dX9_where_50 : decode cX9_where 50 = .ok (.iaload, 1) := by decide +kernel
theorem dX9_where_51 : decode cX9_where 51 = .ok (.ireturn, 1) := by decide +kernel
set_option maxRecDepth 20000 in
theorem ggX9_gives_X2_hasLamp : GoodIn wsX9_gives wsX2_hasLamp := goodIn_r _ [9, 10, 86, 87, 88, 89, 90, 91, 92, 93] rfl (by decide +kernel)
set_option maxRecDepth 20000 in
theorem gX9_gives_X2_hasLamp : GoodIn wsX9_gives (wsV RX9 126 RX2 yX2_hasLamp wsX2_hasLamp) := goodIn_app (goodIn_of _ (by decide +kernel)) ggX9_gives_X2_hasLamp
set_option maxRecDepth 20000 in
theorem ggX9_gives_X9_isWatch : GoodIn wsX9_gives wsX9_isWatch := goodIn_r _ [14, 15, 16, 13, 17] rfl (by decide +kernel)
set_option maxRecDepth 20000 in
theorem gX9_gives_X9_isWatch : GoodIn wsX9_gives (va_wsS RX9 144 yX9_isWatch wsX9_isWatch) := goodIn_app (goodIn_of _ (by decide +kernel)) ggX9_gives_X9_isWatch
set_option maxRecDepth 20000 in
theorem ggX9_gives_X8_reckon : GoodIn wsX9_gives wsX8_reckon := goodIn_r _ [22, 23, 24, 25, 26, 27, 21, 28, 29, 30, 31, 32, 33, 34, 35, 36, 37, 38, 39, 40, 41, 8, 42, 43, 44, 45, 46, 47, 48, 49, 50, 51, 52, 53, 54, 55, 56, 57, 58, 59, 60, 61, 62, 63, 64, 65, 66, 67, 68, 86, 87, 88, 89, 90, 91, 92, 93, 81, 82, 83, 84, 85, 94, 95, 96, 97] rfl (by decide +kernel)
set_option maxRecDepth 20000 in
theorem gX9_gives_X8_reckon : GoodIn wsX9_gives (wsV RX9 154 RX8 yX8_reckon wsX8_reckon) := goodIn_app (goodIn_of _ (by decide +kernel)) ggX9_gives_X8_reckon
set_option maxRecDepth 20000 in
theorem ggX9_gives_X8_at : GoodIn wsX9_gives wsX8_at := goodIn_r _ [38] rfl (by decide +kernel)
set_option maxRecDepth 20000 in
theorem gX9_gives_X8_at : GoodIn wsX9_gives (va_wsS RX9 161 yX8_at wsX8_at) := goodIn_app (goodIn_of _ (by decide +kernel)) ggX9_gives_X8_at
theorem dX9_gives_0 : decode cX9_gives 0 = .ok (.aload_n 0, 1) := by decide +kernel
theorem dX9_gives_1 : decode cX9_gives 1 = .ok (.getfield 14, 3) := by decide +kernel
theorem dX9_gives_4 : decode cX9_gives 4 = .ok (.iload_n 1, 1) := by decide +kernel
theorem dX9_gives_5 : decode cX9_gives 5 = .ok (.invokevirtual 126, 3) := by decide +kernel
theorem dX9_gives_8 : decode cX9_gives 8 = .ok (.ifCond .ne 5, 3) := by decide +kernel
theorem dX9_gives_11 : decode cX9_gives 11 = .ok (.iconst (-1), 1) := by decide +kernel
theorem dX9_gives_12 : decode cX9_gives 12 = .ok (.ireturn, 1) := by decide +kernel
theorem dX9_gives_13 : decode cX9_gives 13 = .ok (.iload_n 2, 1) := by decide +kernel
theorem dX9_gives_14 : decode cX9_gives 14 = .ok (.invokestatic 144, 3) := by decide +kernel
theorem dX9_gives_17 : decode cX9_gives 17 = .ok (.ifCond .ne 6, 3) := by decide +kernel
theorem dX9_gives_20 : decode cX9_gives 20 = .ok (.bipush (-2), 2) := by decide +kernel
theorem dX9_gives_22 : decode cX9_gives 22 = .ok (.ireturn, 1) := by decide +kernel
theorem dX9_gives_23 : decode cX9_gives 23 = .ok (.aload_n 0, 1) := by decide +kernel
theorem dX9_gives_24 : decode cX9_gives 24 = .ok (.getfield 37, 3) := by decide +kernel
theorem dX9_gives_27 : decode cX9_gives 27 = .ok (.aload_n 0, 1) := by decide +kernel
theorem dX9_gives_28 : decode cX9_gives 28 = .ok (.getfield 14, 3) := by decide +kernel
theorem dX9_gives_31 : decode cX9_gives 31 = .ok (.aload_n 0, 1) := by decide +kernel
theorem dX9_gives_32 : decode cX9_gives 32 = .ok (.getfield 24, 3) := by decide +kernel
theorem dX9_gives_35 : decode cX9_gives 35 = .ok (.invokevirtual 154, 3) := by decide +kernel
theorem dX9_gives_38 : decode cX9_gives 38 = .ok (.aload_n 0, 1) := by decide +kernel
theorem dX9_gives_39 : decode cX9_gives 39 = .ok (.getfield 37, 3) := by decide +kernel
theorem dX9_gives_42 : decode cX9_gives 42 = .ok (.getfield 164, 3) := by decide +kernel
theorem dX9_gives_45 : decode cX9_gives 45 = .ok (.iload_n 2, 1) := by decide +kernel
theorem dX9_gives_46 : decode cX9_gives 46 = .ok (.iload_n 1, 1) := by decide +kernel
theorem dX9_gives_47 : decode cX9_gives 47 = .ok (.invokestatic 161, 3) := by decide +kernel
theorem dX9_gives_50 : decode cX9_gives 50 = .ok (.iaload, 1) := by decide +kernel
theorem dX9_gives_51 : decode cX9_gives 51 = .ok (.ireturn, 1) := by decide +kernel
set_option maxRecDepth 20000 in
theorem ggX9_falls_X2_hasLamp : GoodIn wsX9_falls wsX2_hasLamp := goodIn_r _ [9, 10, 86, 87, 88, 89, 90, 91, 92, 93] rfl (by decide +kernel)
set_option maxRecDepth 20000 in
theorem gX9_falls_X2_hasLamp : GoodIn wsX9_falls (wsV RX9 126 RX2 yX2_hasLamp wsX2_hasLamp) := goodIn_app (goodIn_of _ (by decide +kernel)) ggX9_falls_X2_hasLamp
set_option maxRecDepth 20000 in
theorem ggX9_falls_X9_isWatch : GoodIn wsX9_falls wsX9_isWatch := goodIn_r _ [14, 15, 16, 13, 17] rfl (by decide +kernel)
set_option maxRecDepth 20000 in
theorem gX9_falls_X9_isWatch : GoodIn wsX9_falls (va_wsS RX9 144 yX9_isWatch wsX9_isWatch) := goodIn_app (goodIn_of _ (by decide +kernel)) ggX9_falls_X9_isWatch
set_option maxRecDepth 20000 in
theorem ggX9_falls_X8_reckon : GoodIn wsX9_falls wsX8_reckon := goodIn_r _ [22, 23, 24, 25, 26, 27, 21, 28, 29, 30, 31, 32, 33, 34, 35, 36, 37, 38, 39, 40, 41, 8, 42, 43, 44, 45, 46, 47, 48, 49, 50, 51, 52, 53, 54, 55, 56, 57, 58, 59, 60, 61, 62, 63, 64, 65, 66, 67, 68, 86, 87, 88, 89, 90, 91, 92, 93, 81, 82, 83, 84, 85, 94, 95, 96, 97] rfl (by decide +kernel)
set_option maxRecDepth 20000 in
theorem gX9_falls_X8_reckon : GoodIn wsX9_falls (wsV RX9 154 RX8 yX8_reckon wsX8_reckon) := goodIn_app (goodIn_of _ (by decide +kernel)) ggX9_falls_X8_reckon
set_option maxRecDepth 20000 in
theorem ggX9_falls_X8_at : GoodIn wsX9_falls wsX8_at := goodIn_r _ [38] rfl (by decide +kernel)
set_option maxRecDepth 20000 in
theorem gX9_falls_X8_at : GoodIn wsX9_falls (va_wsS RX9 161 yX8_at wsX8_at) := goodIn_app (goodIn_of _ (by decide +kernel)) ggX9_falls_X8_at
theorem dX9_falls_0 : decode cX9_falls 0 = .ok (.aload_n 0, 1) := by decide +kernel
theorem dX9_falls_1 : decode cX9_falls 1 = .ok (.getfield 14, 3) := by decide +kernel
theorem dX9_falls_4 : decode cX9_falls 4 = .ok (.iload_n 1, 1) := by decide +kernel
theorem dX9_falls_5 : decode cX9_falls 5 = .ok (.invokevirtual 126, 3) := by decide +kernel
theorem dX9_falls_8 : decode cX9_falls 8 = .ok (.ifCond .ne 5, 3) := by decide +kernel
theorem dX9_falls_11 : decode cX9_falls 11 = .ok (.iconst (-1), 1) := by decide +kernel
theorem dX9_falls_12 : decode cX9_falls 12 = .ok (.ireturn, 1) := by decide +kernel
theorem dX9_falls_13 : decode cX9_falls 13 = .ok (.iload_n 2, 1) := by decide +kernel
theorem dX9_falls_14 : decode cX9_falls 14 = .ok (.invokestatic 144, 3) := by decide +kernel
theorem dX9_falls_17 : decode cX9_falls 17 = .ok (.ifCond .ne 6, 3) := by decide +kernel
theorem dX9_falls_20 : decode cX9_falls 20 = .ok (.bipush (-2), 2) := by decide +kernel
theorem dX9_falls_22 : decode cX9_falls 22 = .ok (.ireturn, 1) := by decide +kernel
theorem dX9_falls_23 : decode cX9_falls 23 = .ok (.aload_n 0, 1) := by decide +kernel
theorem dX9_falls_24 : decode cX9_falls 24 = .ok (.getfield 37, 3) := by decide +kernel
theorem dX9_falls_27 : decode cX9_falls 27 = .ok (.aload_n 0, 1) := by decide +kernel
theorem dX9_falls_28 : decode cX9_falls 28 = .ok (.getfield 14, 3) := by decide +kernel
theorem dX9_falls_31 : decode cX9_falls 31 = .ok (.aload_n 0, 1) := by decide +kernel
theorem dX9_falls_32 : decode cX9_falls 32 = .ok (.getfield 24, 3) := by decide +kernel
theorem dX9_falls_35 : decode cX9_falls 35 = .ok (.invokevirtual 154, 3) := by decide +kernel
theorem dX9_falls_38 : decode cX9_falls 38 = .ok (.aload_n 0, 1) := by decide +kernel
theorem dX9_falls_39 : decode cX9_falls 39 = .ok (.getfield 37, 3) := by decide +kernel
theorem dX9_falls_42 : decode cX9_falls 42 = .ok (.getfield 167, 3) := by decide +kernel
theorem dX9_falls_45 : decode cX9_falls 45 = .ok (.iload_n 2, 1) := by decide +kernel
theorem dX9_falls_46 : decode cX9_falls 46 = .ok (.iload_n 1, 1) := by decide +kernel
theorem dX9_falls_47 : decode cX9_falls 47 = .ok (.invokestatic 161, 3) := by decide +kernel
theorem dX9_falls_50 : decode cX9_falls 50 = .ok (.iaload, 1) := by decide +kernel
theorem dX9_falls_51 : decode cX9_falls 51 = .ok (.ireturn, 1) := by decide +kernel
set_option maxRecDepth 20000 in
theorem ggX9_light_X2_hasSpot : GoodIn wsX9_light wsX2_hasSpot := goodIn_r _ [8, 9, 83, 84, 85, 86, 87, 88, 89, 90] rfl (by decide +kernel)
set_option maxRecDepth 20000 in
theorem gX9_light_X2_hasSpot : GoodIn wsX9_light (wsV RX9 120 RX2 yX2_hasSpot wsX2_hasSpot) := goodIn_app (goodIn_of _ (by decide +kernel)) ggX9_light_X2_hasSpot
set_option maxRecDepth 20000 in
theorem ggX9_light_X9_isWatch : GoodIn wsX9_light wsX9_isWatch := goodIn_r _ [13, 14, 15, 12, 16] rfl (by decide +kernel)
set_option maxRecDepth 20000 in
theorem gX9_light_X9_isWatch : GoodIn wsX9_light (va_wsS RX9 144 yX9_isWatch wsX9_isWatch) := goodIn_app (goodIn_of _ (by decide +kernel)) ggX9_light_X9_isWatch
set_option maxRecDepth 20000 in
theorem ggX9_light_X8_reckon : GoodIn wsX9_light wsX8_reckon := goodIn_r _ [21, 22, 23, 24, 25, 26, 20, 27, 28, 29, 30, 31, 32, 33, 34, 35, 36, 37, 38, 39, 40, 7, 41, 42, 43, 44, 45, 46, 47, 48, 49, 50, 51, 52, 53, 54, 55, 56, 57, 58, 59, 60, 61, 62, 63, 64, 65, 66, 67, 83, 84, 85, 86, 87, 88, 89, 90, 91, 92, 93, 94, 95, 96, 97, 98, 99] rfl (by decide +kernel)
set_option maxRecDepth 20000 in
theorem gX9_light_X8_reckon : GoodIn wsX9_light (wsV RX9 154 RX8 yX8_reckon wsX8_reckon) := goodIn_app (goodIn_of _ (by decide +kernel)) ggX9_light_X8_reckon
set_option maxRecDepth 20000 in
theorem ggX9_light_X8_lightOf : GoodIn wsX9_light wsX8_lightOf := goodIn_r _ [71, 54, 35, 36, 20, 37, 91, 92, 93, 94, 95] rfl (by decide +kernel)
set_option maxRecDepth 20000 in
theorem gX9_light_X8_lightOf : GoodIn wsX9_light (wsV RX9 170 RX8 yX8_lightOf wsX8_lightOf) := goodIn_app (goodIn_of _ (by decide +kernel)) ggX9_light_X8_lightOf
theorem dX9_light_0 : decode cX9_light 0 = .ok (.aload_n 0, 1) := by decide +kernel
theorem dX9_light_1 : decode cX9_light 1 = .ok (.getfield 14, 3) := by decide +kernel
theorem dX9_light_4 : decode cX9_light 4 = .ok (.iload_n 1, 1) := by decide +kernel
theorem dX9_light_5 : decode cX9_light 5 = .ok (.invokevirtual 120, 3) := by decide +kernel
theorem dX9_light_8 : decode cX9_light 8 = .ok (.ifCond .ne 5, 3) := by decide +kernel
theorem dX9_light_11 : decode cX9_light 11 = .ok (.iconst (-1), 1) := by decide +kernel
theorem dX9_light_12 : decode cX9_light 12 = .ok (.ireturn, 1) := by decide +kernel
theorem dX9_light_13 : decode cX9_light 13 = .ok (.iload_n 2, 1) := by decide +kernel
theorem dX9_light_14 : decode cX9_light 14 = .ok (.invokestatic 144, 3) := by decide +kernel
theorem dX9_light_17 : decode cX9_light 17 = .ok (.ifCond .ne 6, 3) := by decide +kernel
theorem dX9_light_20 : decode cX9_light 20 = .ok (.bipush (-2), 2) := by decide +kernel
theorem dX9_light_22 : decode cX9_light 22 = .ok (.ireturn, 1) := by decide +kernel
theorem dX9_light_23 : decode cX9_light 23 = .ok (.aload_n 0, 1) := by decide +kernel
theorem dX9_light_24 : decode cX9_light 24 = .ok (.getfield 37, 3) := by decide +kernel
theorem dX9_light_27 : decode cX9_light 27 = .ok (.aload_n 0, 1) := by decide +kernel
theorem dX9_light_28 : decode cX9_light 28 = .ok (.getfield 14, 3) := by decide +kernel
theorem dX9_light_31 : decode cX9_light 31 = .ok (.aload_n 0, 1) := by decide +kernel
theorem dX9_light_32 : decode cX9_light 32 = .ok (.getfield 24, 3) := by decide +kernel
theorem dX9_light_35 : decode cX9_light 35 = .ok (.invokevirtual 154, 3) := by decide +kernel
theorem dX9_light_38 : decode cX9_light 38 = .ok (.aload_n 0, 1) := by decide +kernel
theorem dX9_light_39 : decode cX9_light 39 = .ok (.getfield 37, 3) := by decide +kernel
theorem dX9_light_42 : decode cX9_light 42 = .ok (.iload_n 1, 1) := by decide +kernel
theorem dX9_light_43 : decode cX9_light 43 = .ok (.iload_n 2, 1) := by decide +kernel
theorem dX9_light_44 : decode cX9_light 44 = .ok (.invokevirtual 170, 3) := by decide +kernel
theorem dX9_light_47 : decode cX9_light 47 = .ok (.ireturn, 1) := by decide +kernel
set_option maxRecDepth 20000 in
theorem ggX9_dark_X2_hasSpot : GoodIn wsX9_dark wsX2_hasSpot := goodIn_r _ [8, 9, 83, 84, 85, 86, 87, 88, 89, 90] rfl (by decide +kernel)
set_option maxRecDepth 20000 in
theorem gX9_dark_X2_hasSpot : GoodIn wsX9_dark (wsV RX9 120 RX2 yX2_hasSpot wsX2_hasSpot) := goodIn_app (goodIn_of _ (by decide +kernel)) ggX9_dark_X2_hasSpot
set_option maxRecDepth 20000 in
theorem ggX9_dark_X9_isWatch : GoodIn wsX9_dark wsX9_isWatch := goodIn_r _ [13, 14, 15, 12, 16] rfl (by decide +kernel)
set_option maxRecDepth 20000 in
theorem gX9_dark_X9_isWatch : GoodIn wsX9_dark (va_wsS RX9 144 yX9_isWatch wsX9_isWatch) := goodIn_app (goodIn_of _ (by decide +kernel)) ggX9_dark_X9_isWatch
set_option maxRecDepth 20000 in
theorem ggX9_dark_X9_isWithin : GoodIn wsX9_dark wsX9_isWithin := goodIn_r _ [16] rfl (by decide +kernel)
set_option maxRecDepth 20000 in
theorem gX9_dark_X9_isWithin : GoodIn wsX9_dark (va_wsS RX9 109 yX9_isWithin wsX9_isWithin) := goodIn_app (goodIn_of _ (by decide +kernel)) ggX9_dark_X9_isWithin
set_option maxRecDepth 20000 in
theorem ggX9_dark_X8_reckon : GoodIn wsX9_dark wsX8_reckon := goodIn_r _ [21, 22, 23, 24, 25, 26, 20, 27, 28, 29, 30, 31, 32, 33, 34, 35, 36, 37, 38, 39, 40, 7, 41, 42, 43, 44, 45, 46, 47, 48, 49, 50, 51, 52, 53, 54, 55, 56, 57, 58, 59, 60, 61, 62, 63, 64, 65, 66, 67, 83, 84, 85, 86, 87, 88, 89, 90, 91, 92, 93, 94, 95, 96, 97, 98, 99] rfl (by decide +kernel)
set_option maxRecDepth 20000 in
theorem gX9_dark_X8_reckon : GoodIn wsX9_dark (wsV RX9 154 RX8 yX8_reckon wsX8_reckon) := goodIn_app (goodIn_of _ (by decide +kernel)) ggX9_dark_X8_reckon
set_option maxRecDepth 20000 in
theorem ggX9_dark_X8_lightOf : GoodIn wsX9_dark wsX8_lightOf := goodIn_r _ [71, 54, 35, 36, 20, 37, 91, 92, 93, 94, 95] rfl (by decide +kernel)
set_option maxRecDepth 20000 in
theorem gX9_dark_X8_lightOf : GoodIn wsX9_dark (wsV RX9 170 RX8 yX8_lightOf wsX8_lightOf) := goodIn_app (goodIn_of _ (by decide +kernel)) ggX9_dark_X8_lightOf
theorem dX9_dark_0 : decode cX9_dark 0 = .ok (.aload_n 0, 1) := by decide +kernel
theorem dX9_dark_1 : decode cX9_dark 1 = .ok (.getfield 14, 3) := by decide +kernel
theorem dX9_dark_4 : decode cX9_dark 4 = .ok (.iload_n 1, 1) := by decide +kernel
theorem dX9_dark_5 : decode cX9_dark 5 = .ok (.invokevirtual 120, 3) := by decide +kernel
theorem dX9_dark_8 : decode cX9_dark 8 = .ok (.ifCond .ne 5, 3) := by decide +kernel
theorem dX9_dark_11 : decode cX9_dark 11 = .ok (.iconst (-1), 1) := by decide +kernel
theorem dX9_dark_12 : decode cX9_dark 12 = .ok (.ireturn, 1) := by decide +kernel
theorem dX9_dark_13 : decode cX9_dark 13 = .ok (.iload_n 2, 1) := by decide +kernel
theorem dX9_dark_14 : decode cX9_dark 14 = .ok (.invokestatic 144, 3) := by decide +kernel
theorem dX9_dark_17 : decode cX9_dark 17 = .ok (.ifCond .eq 14, 3) := by decide +kernel
theorem dX9_dark_20 : decode cX9_dark 20 = .ok (.iload_n 3, 1) := by decide +kernel
theorem dX9_dark_21 : decode cX9_dark 21 = .ok (.iconst 0, 1) := by decide +kernel
theorem dX9_dark_22 : decode cX9_dark 22 = .ok (.sipush 999, 3) := by decide +kernel
theorem dX9_dark_25 : decode cX9_dark 25 = .ok (.invokestatic 109, 3) := by decide +kernel
theorem dX9_dark_28 : decode cX9_dark 28 = .ok (.ifCond .ne 6, 3) := by decide +kernel
theorem dX9_dark_31 : decode cX9_dark 31 = .ok (.bipush (-2), 2) := by decide +kernel
theorem dX9_dark_33 : decode cX9_dark 33 = .ok (.ireturn, 1) := by decide +kernel
theorem dX9_dark_34 : decode cX9_dark 34 = .ok (.aload_n 0, 1) := by decide +kernel
theorem dX9_dark_35 : decode cX9_dark 35 = .ok (.getfield 37, 3) := by decide +kernel
theorem dX9_dark_38 : decode cX9_dark 38 = .ok (.aload_n 0, 1) := by decide +kernel
theorem dX9_dark_39 : decode cX9_dark 39 = .ok (.getfield 14, 3) := by decide +kernel
theorem dX9_dark_42 : decode cX9_dark 42 = .ok (.aload_n 0, 1) := by decide +kernel
theorem dX9_dark_43 : decode cX9_dark 43 = .ok (.getfield 24, 3) := by decide +kernel
theorem dX9_dark_46 : decode cX9_dark 46 = .ok (.invokevirtual 154, 3) := by decide +kernel
theorem dX9_dark_49 : decode cX9_dark 49 = .ok (.iload_n 2, 1) := by decide +kernel
theorem dX9_dark_50 : decode cX9_dark 50 = .ok (.istore 4, 2) := by decide +kernel
theorem dX9_dark_52 : decode cX9_dark 52 = .ok (.iload 4, 2) := by decide +kernel
theorem dX9_dark_54 : decode cX9_dark 54 = .ok (.bipush 24, 2) := by decide +kernel
theorem dX9_dark_56 : decode cX9_dark 56 = .ok (.if_icmp .ge 26, 3) := by decide +kernel
theorem dX9_dark_59 : decode cX9_dark 59 = .ok (.aload_n 0, 1) := by decide +kernel
theorem dX9_dark_60 : decode cX9_dark 60 = .ok (.getfield 37, 3) := by decide +kernel
theorem dX9_dark_63 : decode cX9_dark 63 = .ok (.iload_n 1, 1) := by decide +kernel
theorem dX9_dark_64 : decode cX9_dark 64 = .ok (.iload 4, 2) := by decide +kernel
theorem dX9_dark_66 : decode cX9_dark 66 = .ok (.invokevirtual 170, 3) := by decide +kernel
theorem dX9_dark_69 : decode cX9_dark 69 = .ok (.iload_n 3, 1) := by decide +kernel
theorem dX9_dark_70 : decode cX9_dark 70 = .ok (.if_icmp .ge 6, 3) := by decide +kernel
theorem dX9_dark_73 : decode cX9_dark 73 = .ok (.iload 4, 2) := by decide +kernel
theorem dX9_dark_75 : decode cX9_dark 75 = .ok (.ireturn, 1) := by decide +kernel
theorem dX9_dark_76 : decode cX9_dark 76 = .ok (.iinc 4 1, 3) := by decide +kernel
theorem dX9_dark_79 : decode cX9_dark 79 = .ok (.goto (-27), 3) := by decide +kernel
theorem dX9_dark_82 : decode cX9_dark 82 = .ok (.bipush (-9), 2) := by decide +kernel
theorem dX9_dark_84 : decode cX9_dark 84 = .ok (.ireturn, 1) := by decide +kernel
set_option maxRecDepth 20000 in
theorem ggX9_set_X2_hasSpot : GoodIn wsX9_set wsX2_hasSpot := goodIn_r _ [13, 14, 164, 165, 166, 167, 168, 169, 170, 171] rfl (by decide +kernel)
set_option maxRecDepth 20000 in
theorem gX9_set_X2_hasSpot : GoodIn wsX9_set (wsV RX9 120 RX2 yX2_hasSpot wsX2_hasSpot) := goodIn_app (goodIn_of _ (by decide +kernel)) ggX9_set_X2_hasSpot
set_option maxRecDepth 20000 in
theorem ggX9_set_X9_isWatch : GoodIn wsX9_set wsX9_isWatch := goodIn_r _ [18, 19, 20, 17, 21] rfl (by decide +kernel)
set_option maxRecDepth 20000 in
theorem gX9_set_X9_isWatch : GoodIn wsX9_set (va_wsS RX9 144 yX9_isWatch wsX9_isWatch) := goodIn_app (goodIn_of _ (by decide +kernel)) ggX9_set_X9_isWatch
set_option maxRecDepth 20000 in
theorem ggX9_set_X9_isWithin : GoodIn wsX9_set wsX9_isWithin := goodIn_r _ [21] rfl (by decide +kernel)
set_option maxRecDepth 20000 in
theorem gX9_set_X9_isWithin : GoodIn wsX9_set (va_wsS RX9 109 yX9_isWithin wsX9_isWithin) := goodIn_app (goodIn_of _ (by decide +kernel)) ggX9_set_X9_isWithin
set_option maxRecDepth 20000 in
theorem ggX9_set_X4_init : GoodIn wsX9_set wsX4_init := goodIn_r _ [24, 25, 26, 27, 28, 29, 30, 31, 32, 33, 158, 159] rfl (by decide +kernel)
set_option maxRecDepth 20000 in
theorem gX9_set_X4_init : GoodIn wsX9_set (wsX4_init) := ggX9_set_X4_init
set_option maxRecDepth 20000 in
theorem ggX9_set_X5_run : GoodIn wsX9_set wsX5_run := goodIn_r _ [38, 39, 40, 41, 42, 43, 44, 45, 46, 47, 48, 49, 50, 51, 52, 53, 54, 55, 56, 57, 58, 59, 60, 61, 62, 63, 64, 65, 66, 12, 67, 68, 69, 70, 71, 72, 73, 74, 75, 76, 77, 78, 79, 80, 81, 82, 83, 84, 85, 86, 87, 88, 89, 90, 91, 92, 93, 94, 95, 96, 97, 98, 99, 100, 101, 102, 103, 104, 105, 106, 107, 6, 108, 25, 26, 109, 110, 111, 112, 113, 114, 115, 116, 117, 118, 119, 120, 121, 122, 123, 124, 125, 126, 127, 128, 129, 130, 131, 132, 37, 133, 134, 135, 136, 137, 138, 139, 140, 141, 142, 143, 144, 145, 146, 160, 161, 162, 163, 164, 165, 166, 167, 168, 169, 170, 171, 172, 173, 174, 175, 176, 177, 178, 179, 180, 181, 182, 158, 159] rfl (by decide +kernel)
set_option maxRecDepth 20000 in
theorem gX9_set_X5_run : GoodIn wsX9_set (wsV RX9 178 RX5 yX5_run wsX5_run) := goodIn_app (goodIn_of _ (by decide +kernel)) ggX9_set_X5_run
theorem dX9_set_0 : decode cX9_set 0 = .ok (.aload_n 0, 1) := by decide +kernel
theorem dX9_set_1 : decode cX9_set 1 = .ok (.getfield 14, 3) := by decide +kernel
theorem dX9_set_4 : decode cX9_set 4 = .ok (.iload_n 1, 1) := by decide +kernel
theorem dX9_set_5 : decode cX9_set 5 = .ok (.invokevirtual 120, 3) := by decide +kernel
theorem dX9_set_8 : decode cX9_set 8 = .ok (.ifCond .ne 5, 3) := by decide +kernel
theorem dX9_set_11 : decode cX9_set 11 = .ok (.iconst (-1), 1) := by decide +kernel
theorem dX9_set_12 : decode cX9_set 12 = .ok (.ireturn, 1) := by decide +kernel
theorem dX9_set_13 : decode cX9_set 13 = .ok (.iload_n 2, 1) := by decide +kernel
theorem dX9_set_14 : decode cX9_set 14 = .ok (.invokestatic 144, 3) := by decide +kernel
theorem dX9_set_17 : decode cX9_set 17 = .ok (.ifCond .eq 12, 3) := by decide +kernel
theorem dX9_set_20 : decode cX9_set 20 = .ok (.iload_n 3, 1) := by decide +kernel
theorem dX9_set_21 : decode cX9_set 21 = .ok (.iconst 0, 1) := by decide +kernel
theorem dX9_set_22 : decode cX9_set 22 = .ok (.iconst 1, 1) := by decide +kernel
theorem dX9_set_23 : decode cX9_set 23 = .ok (.invokestatic 109, 3) := by decide +kernel
theorem dX9_set_26 : decode cX9_set 26 = .ok (.ifCond .ne 6, 3) := by decide +kernel
theorem dX9_set_29 : decode cX9_set 29 = .ok (.bipush (-2), 2) := by decide +kernel
theorem dX9_set_31 : decode cX9_set 31 = .ok (.ireturn, 1) := by decide +kernel
theorem dX9_set_32 : decode cX9_set 32 = .ok (.aload_n 0, 1) := by decide +kernel
theorem dX9_set_33 : decode cX9_set 33 = .ok (.getfield 47, 3) := by decide +kernel
theorem dX9_set_36 : decode cX9_set 36 = .ok (.aload_n 0, 1) := by decide +kernel
theorem dX9_set_37 : decode cX9_set 37 = .ok (.getfield 14, 3) := by decide +kernel
theorem dX9_set_40 : decode cX9_set 40 = .ok (.aload_n 0, 1) := by decide +kernel
theorem dX9_set_41 : decode cX9_set 41 = .ok (.getfield 24, 3) := by decide +kernel
theorem dX9_set_44 : decode cX9_set 44 = .ok (.new 173, 3) := by decide +kernel
theorem dX9_set_47 : decode cX9_set 47 = .ok (.dup, 1) := by decide +kernel
theorem dX9_set_48 : decode cX9_set 48 = .ok (.iload_n 1, 1) := by decide +kernel
theorem dX9_set_49 : decode cX9_set 49 = .ok (.iload_n 2, 1) := by decide +kernel
theorem dX9_set_50 : decode cX9_set 50 = .ok (.invokespecial 175, 3) := by decide +kernel
theorem dX9_set_53 : decode cX9_set 53 = .ok (.invokevirtual 178, 3) := by decide +kernel
theorem dX9_set_56 : decode cX9_set 56 = .ok (.iload_n 3, 1) := by decide +kernel
theorem dX9_set_57 : decode cX9_set 57 = .ok (.ifCond .ne 13, 3) := by decide +kernel
theorem dX9_set_60 : decode cX9_set 60 = .ok (.aload_n 0, 1) := by decide +kernel
theorem dX9_set_61 : decode cX9_set 61 = .ok (.getfield 47, 3) := by decide +kernel
theorem dX9_set_64 : decode cX9_set 64 = .ok (.getfield 182, 3) := by decide +kernel
theorem dX9_set_67 : decode cX9_set 67 = .ok (.goto 10, 3) := by decide +kernel
theorem dX9_set_70 : decode cX9_set 70 = .ok (.aload_n 0, 1) := by decide +kernel
theorem dX9_set_71 : decode cX9_set 71 = .ok (.getfield 47, 3) := by decide +kernel
theorem dX9_set_74 : decode cX9_set 74 = .ok (.getfield 185, 3) := by decide +kernel
theorem dX9_set_77 : decode cX9_set 77 = .ok (.ireturn, 1) := by decide +kernel
set_option maxRecDepth 20000 in
theorem ggX9_show_X2_hasSpot : GoodIn wsX9_show wsX2_hasSpot := goodIn_r _ [13, 14, 161, 162, 163, 164, 165, 166, 167, 168] rfl (by decide +kernel)
set_option maxRecDepth 20000 in
theorem gX9_show_X2_hasSpot : GoodIn wsX9_show (wsV RX9 120 RX2 yX2_hasSpot wsX2_hasSpot) := goodIn_app (goodIn_of _ (by decide +kernel)) ggX9_show_X2_hasSpot
set_option maxRecDepth 20000 in
theorem ggX9_show_X9_isWithin : GoodIn wsX9_show wsX9_isWithin := goodIn_r _ [18] rfl (by decide +kernel)
set_option maxRecDepth 20000 in
theorem gX9_show_X9_isWithin : GoodIn wsX9_show (va_wsS RX9 109 yX9_isWithin wsX9_isWithin) := goodIn_app (goodIn_of _ (by decide +kernel)) ggX9_show_X9_isWithin
set_option maxRecDepth 20000 in
theorem ggX9_show_X3_init : GoodIn wsX9_show wsX3_init := goodIn_r _ [21, 22, 23, 24, 25, 26, 27, 28, 29, 30, 155, 156] rfl (by decide +kernel)
set_option maxRecDepth 20000 in
theorem gX9_show_X3_init : GoodIn wsX9_show (wsX3_init) := ggX9_show_X3_init
set_option maxRecDepth 20000 in
theorem ggX9_show_X5_run : GoodIn wsX9_show wsX5_run := goodIn_r _ [35, 36, 37, 38, 39, 40, 41, 42, 43, 44, 45, 46, 47, 48, 49, 50, 51, 52, 53, 54, 55, 56, 57, 58, 59, 60, 61, 62, 63, 12, 64, 65, 66, 67, 68, 69, 70, 71, 72, 73, 74, 75, 76, 77, 78, 79, 80, 81, 82, 83, 84, 85, 86, 87, 88, 89, 90, 91, 92, 93, 94, 6, 95, 22, 23, 96, 97, 98, 99, 100, 101, 102, 103, 104, 105, 106, 107, 108, 109, 110, 111, 112, 113, 114, 115, 116, 117, 118, 119, 120, 121, 122, 123, 124, 125, 126, 127, 128, 129, 34, 130, 131, 132, 133, 134, 135, 136, 137, 138, 139, 140, 141, 142, 143, 157, 158, 159, 160, 161, 162, 163, 164, 165, 166, 167, 168, 169, 170, 171, 172, 173, 174, 175, 176, 177, 155, 156, 178, 179] rfl (by decide +kernel)
set_option maxRecDepth 20000 in
theorem gX9_show_X5_run : GoodIn wsX9_show (wsV RX9 178 RX5 yX5_run wsX5_run) := goodIn_app (goodIn_of _ (by decide +kernel)) ggX9_show_X5_run
theorem dX9_show_0 : decode cX9_show 0 = .ok (.aload_n 0, 1) := by decide +kernel
theorem dX9_show_1 : decode cX9_show 1 = .ok (.getfield 14, 3) := by decide +kernel
theorem dX9_show_4 : decode cX9_show 4 = .ok (.iload_n 1, 1) := by decide +kernel
theorem dX9_show_5 : decode cX9_show 5 = .ok (.invokevirtual 120, 3) := by decide +kernel
theorem dX9_show_8 : decode cX9_show 8 = .ok (.ifCond .ne 5, 3) := by decide +kernel
theorem dX9_show_11 : decode cX9_show 11 = .ok (.iconst (-1), 1) := by decide +kernel
theorem dX9_show_12 : decode cX9_show 12 = .ok (.ireturn, 1) := by decide +kernel
theorem dX9_show_13 : decode cX9_show 13 = .ok (.iload_n 2, 1) := by decide +kernel
theorem dX9_show_14 : decode cX9_show 14 = .ok (.iconst 0, 1) := by decide +kernel
theorem dX9_show_15 : decode cX9_show 15 = .ok (.sipush 999, 3) := by decide +kernel
theorem dX9_show_18 : decode cX9_show 18 = .ok (.invokestatic 109, 3) := by decide +kernel
theorem dX9_show_21 : decode cX9_show 21 = .ok (.ifCond .eq 12, 3) := by decide +kernel
theorem dX9_show_24 : decode cX9_show 24 = .ok (.iload_n 3, 1) := by decide +kernel
theorem dX9_show_25 : decode cX9_show 25 = .ok (.iconst 0, 1) := by decide +kernel
theorem dX9_show_26 : decode cX9_show 26 = .ok (.iconst 1, 1) := by decide +kernel
theorem dX9_show_27 : decode cX9_show 27 = .ok (.invokestatic 109, 3) := by decide +kernel
theorem dX9_show_30 : decode cX9_show 30 = .ok (.ifCond .ne 6, 3) := by decide +kernel
theorem dX9_show_33 : decode cX9_show 33 = .ok (.bipush (-2), 2) := by decide +kernel
theorem dX9_show_35 : decode cX9_show 35 = .ok (.ireturn, 1) := by decide +kernel
theorem dX9_show_36 : decode cX9_show 36 = .ok (.aload_n 0, 1) := by decide +kernel
theorem dX9_show_37 : decode cX9_show 37 = .ok (.getfield 47, 3) := by decide +kernel
theorem dX9_show_40 : decode cX9_show 40 = .ok (.aload_n 0, 1) := by decide +kernel
theorem dX9_show_41 : decode cX9_show 41 = .ok (.getfield 14, 3) := by decide +kernel
theorem dX9_show_44 : decode cX9_show 44 = .ok (.aload_n 0, 1) := by decide +kernel
theorem dX9_show_45 : decode cX9_show 45 = .ok (.getfield 24, 3) := by decide +kernel
theorem dX9_show_48 : decode cX9_show 48 = .ok (.new 188, 3) := by decide +kernel
theorem dX9_show_51 : decode cX9_show 51 = .ok (.dup, 1) := by decide +kernel
theorem dX9_show_52 : decode cX9_show 52 = .ok (.iload_n 1, 1) := by decide +kernel
theorem dX9_show_53 : decode cX9_show 53 = .ok (.iload_n 2, 1) := by decide +kernel
theorem dX9_show_54 : decode cX9_show 54 = .ok (.invokespecial 190, 3) := by decide +kernel
theorem dX9_show_57 : decode cX9_show 57 = .ok (.invokevirtual 178, 3) := by decide +kernel
theorem dX9_show_60 : decode cX9_show 60 = .ok (.iload_n 3, 1) := by decide +kernel
theorem dX9_show_61 : decode cX9_show 61 = .ok (.ifCond .ne 13, 3) := by decide +kernel
theorem dX9_show_64 : decode cX9_show 64 = .ok (.aload_n 0, 1) := by decide +kernel
theorem dX9_show_65 : decode cX9_show 65 = .ok (.getfield 47, 3) := by decide +kernel
theorem dX9_show_68 : decode cX9_show 68 = .ok (.getfield 182, 3) := by decide +kernel
theorem dX9_show_71 : decode cX9_show 71 = .ok (.goto 11, 3) := by decide +kernel
theorem dX9_show_74 : decode cX9_show 74 = .ok (.aload_n 0, 1) := by decide +kernel
theorem dX9_show_75 : decode cX9_show 75 = .ok (.getfield 47, 3) := by decide +kernel
theorem dX9_show_78 : decode cX9_show 78 = .ok (.getfield 185, 3) := by decide +kernel
theorem dX9_show_81 : decode cX9_show 81 = .ok (.ineg, 1) := by decide +kernel
theorem dX9_show_82 : decode cX9_show 82 = .ok (.ireturn, 1) := by decide +kernel
set_option maxRecDepth 20000 in
theorem ggX9_moves_X2_hasSpot : GoodIn wsX9_moves wsX2_hasSpot := goodIn_r _ [10, 11, 130, 131, 132, 133, 134, 135, 136, 137] rfl (by decide +kernel)
set_option maxRecDepth 20000 in
theorem gX9_moves_X2_hasSpot : GoodIn wsX9_moves (wsV RX9 120 RX2 yX2_hasSpot wsX2_hasSpot) := goodIn_app (goodIn_of _ (by decide +kernel)) ggX9_moves_X2_hasSpot
set_option maxRecDepth 20000 in
theorem ggX9_moves_X9_isWatch : GoodIn wsX9_moves wsX9_isWatch := goodIn_r _ [15, 16, 17, 14, 18] rfl (by decide +kernel)
set_option maxRecDepth 20000 in
theorem gX9_moves_X9_isWatch : GoodIn wsX9_moves (va_wsS RX9 144 yX9_isWatch wsX9_isWatch) := goodIn_app (goodIn_of _ (by decide +kernel)) ggX9_moves_X9_isWatch
set_option maxRecDepth 20000 in
theorem ggX9_moves_X9_isSheet : GoodIn wsX9_moves wsX9_isSheet := goodIn_r _ [21, 16, 17, 14, 18] rfl (by decide +kernel)
set_option maxRecDepth 20000 in
theorem gX9_moves_X9_isSheet : GoodIn wsX9_moves (va_wsS RX9 65 yX9_isSheet wsX9_isSheet) := goodIn_app (goodIn_of _ (by decide +kernel)) ggX9_moves_X9_isSheet
set_option maxRecDepth 20000 in
theorem ggX9_moves_X9_isLane : GoodIn wsX9_moves wsX9_isLane := goodIn_r _ [24, 16, 17, 14, 18] rfl (by decide +kernel)
set_option maxRecDepth 20000 in
theorem gX9_moves_X9_isLane : GoodIn wsX9_moves (va_wsS RX9 69 yX9_isLane wsX9_isLane) := goodIn_app (goodIn_of _ (by decide +kernel)) ggX9_moves_X9_isLane
set_option maxRecDepth 20000 in
theorem ggX9_moves_X9_isWithin : GoodIn wsX9_moves wsX9_isWithin := goodIn_r _ [18] rfl (by decide +kernel)
set_option maxRecDepth 20000 in
theorem gX9_moves_X9_isWithin : GoodIn wsX9_moves (va_wsS RX9 109 yX9_isWithin wsX9_isWithin) := goodIn_app (goodIn_of _ (by decide +kernel)) ggX9_moves_X9_isWithin
set_option maxRecDepth 20000 in
theorem ggX9_moves_X6_isOfAnotherLane : GoodIn wsX9_moves wsX6_isOfAnotherLane := goodIn_r _ [29, 30, 138, 139, 140] rfl (by decide +kernel)
set_option maxRecDepth 20000 in
theorem gX9_moves_X6_isOfAnotherLane : GoodIn wsX9_moves (wsV RX9 72 RX6 yX6_isOfAnotherLane wsX6_isOfAnotherLane) := goodIn_app (goodIn_of _ (by decide +kernel)) ggX9_moves_X6_isOfAnotherLane
set_option maxRecDepth 20000 in
theorem ggX9_moves_X9_faulted : GoodIn wsX9_moves wsX9_faulted := goodIn_r _ [34, 1, 119, 120, 121, 122, 123, 124, 125, 126, 127, 128, 129] rfl (by decide +kernel)
set_option maxRecDepth 20000 in
theorem gX9_moves_X9_faulted : GoodIn wsX9_moves (wsV RX9 75 RX9 yX9_faulted wsX9_faulted) := goodIn_app (goodIn_of _ (by decide +kernel)) ggX9_moves_X9_faulted
set_option maxRecDepth 20000 in
theorem ggX9_moves_X6_isNothing : GoodIn wsX9_moves wsX6_isNothing := goodIn_r _ [38, 30, 138, 139, 140] rfl (by decide +kernel)
set_option maxRecDepth 20000 in
theorem gX9_moves_X6_isNothing : GoodIn wsX9_moves (wsV RX9 79 RX6 yX6_isNothing wsX6_isNothing) := goodIn_app (goodIn_of _ (by decide +kernel)) ggX9_moves_X6_isNothing
set_option maxRecDepth 20000 in
theorem ggX9_moves_X6_hasCells : GoodIn wsX9_moves wsX6_hasCells := goodIn_r _ [42, 43, 138, 139, 140] rfl (by decide +kernel)
set_option maxRecDepth 20000 in
theorem gX9_moves_X6_hasCells : GoodIn wsX9_moves (wsV RX9 83 RX6 yX6_hasCells wsX6_hasCells) := goodIn_app (goodIn_of _ (by decide +kernel)) ggX9_moves_X6_hasCells
set_option maxRecDepth 20000 in
theorem ggX9_moves_X9_readTried : GoodIn wsX9_moves wsX9_readTried := goodIn_r _ [47, 5, 48, 49, 2, 50, 51, 52, 9, 53, 54, 12, 13, 14, 15, 16, 17, 18, 6, 7, 8, 10, 11, 55, 56, 57, 58, 59, 60, 61, 62, 63, 119, 120, 121, 122, 123, 124, 125, 126, 127, 128, 129, 141, 142, 143, 144, 138, 139, 140, 130, 131, 132, 133, 134, 135, 136, 137] rfl (by decide +kernel)
set_option maxRecDepth 20000 in
theorem gX9_moves_X9_readTried : GoodIn wsX9_moves (wsV RX9 191 RX9 yX9_readTried wsX9_readTried) := goodIn_app (goodIn_of _ (by decide +kernel)) ggX9_moves_X9_readTried
set_option maxRecDepth 20000 in
theorem ggX9_moves_X8_reckon : GoodIn wsX9_moves wsX8_reckon := goodIn_r _ [68, 69, 70, 71, 72, 73, 67, 74, 75, 76, 77, 78, 79, 80, 81, 82, 83, 84, 85, 86, 87, 9, 88, 89, 90, 91, 92, 93, 94, 95, 96, 97, 98, 99, 100, 101, 102, 103, 104, 105, 106, 107, 108, 109, 110, 111, 112, 113, 114, 130, 131, 132, 133, 134, 135, 136, 137, 145, 146, 147, 148, 149, 141, 142, 143, 144] rfl (by decide +kernel)
set_option maxRecDepth 20000 in
theorem gX9_moves_X8_reckon : GoodIn wsX9_moves (wsV RX9 154 RX8 yX8_reckon wsX8_reckon) := goodIn_app (goodIn_of _ (by decide +kernel)) ggX9_moves_X8_reckon
set_option maxRecDepth 20000 in
theorem ggX9_moves_X8_lightOf : GoodIn wsX9_moves wsX8_lightOf := goodIn_r _ [118, 101, 82, 83, 67, 84, 145, 146, 147, 148, 149] rfl (by decide +kernel)
set_option maxRecDepth 20000 in
theorem gX9_moves_X8_lightOf : GoodIn wsX9_moves (wsV RX9 170 RX8 yX8_lightOf wsX8_lightOf) := goodIn_app (goodIn_of _ (by decide +kernel)) ggX9_moves_X8_lightOf
theorem dX9_moves_0 : decode cX9_moves 0 = .ok (.aload_n 0, 1) := by decide +kernel
theorem dX9_moves_1 : decode cX9_moves 1 = .ok (.iconst 0, 1) := by decide +kernel
theorem dX9_moves_2 : decode cX9_moves 2 = .ok (.putfield 61, 3) := by decide +kernel
theorem dX9_moves_5 : decode cX9_moves 5 = .ok (.aload_n 0, 1) := by decide +kernel
theorem dX9_moves_6 : decode cX9_moves 6 = .ok (.getfield 14, 3) := by decide +kernel
theorem dX9_moves_9 : decode cX9_moves 9 = .ok (.iload_n 1, 1) := by decide +kernel
theorem dX9_moves_10 : decode cX9_moves 10 = .ok (.invokevirtual 120, 3) := by decide +kernel
theorem dX9_moves_13 : decode cX9_moves 13 = .ok (.ifCond .ne 5, 3) := by decide +kernel
theorem dX9_moves_16 : decode cX9_moves 16 = .ok (.iconst (-1), 1) := by decide +kernel
theorem dX9_moves_17 : decode cX9_moves 17 = .ok (.ireturn, 1) := by decide +kernel
theorem dX9_moves_18 : decode cX9_moves 18 = .ok (.iload_n 2, 1) := by decide +kernel
theorem dX9_moves_19 : decode cX9_moves 19 = .ok (.invokestatic 144, 3) := by decide +kernel
theorem dX9_moves_22 : decode cX9_moves 22 = .ok (.ifCond .ne 6, 3) := by decide +kernel
theorem dX9_moves_25 : decode cX9_moves 25 = .ok (.bipush (-2), 2) := by decide +kernel
theorem dX9_moves_27 : decode cX9_moves 27 = .ok (.ireturn, 1) := by decide +kernel
theorem dX9_moves_28 : decode cX9_moves 28 = .ok (.iload_n 3, 1) := by decide +kernel
theorem dX9_moves_29 : decode cX9_moves 29 = .ok (.invokestatic 65, 3) := by decide +kernel
theorem dX9_moves_32 : decode cX9_moves 32 = .ok (.ifCond .ne 5, 3) := by decide +kernel
theorem dX9_moves_35 : decode cX9_moves 35 = .ok (.iconst (-1), 1) := by decide +kernel
theorem dX9_moves_36 : decode cX9_moves 36 = .ok (.ireturn, 1) := by decide +kernel
theorem dX9_moves_37 : decode cX9_moves 37 = .ok (.iload 4, 2) := by decide +kernel
theorem dX9_moves_39 : decode cX9_moves 39 = .ok (.invokestatic 69, 3) := by decide +kernel
theorem dX9_moves_42 : decode cX9_moves 42 = .ok (.ifCond .eq 14, 3) := by decide +kernel
theorem dX9_moves_45 : decode cX9_moves 45 = .ok (.iload 6, 2) := by decide +kernel
theorem dX9_moves_47 : decode cX9_moves 47 = .ok (.iconst 0, 1) := by decide +kernel
theorem dX9_moves_48 : decode cX9_moves 48 = .ok (.bipush 8, 2) := by decide +kernel
theorem dX9_moves_50 : decode cX9_moves 50 = .ok (.invokestatic 109, 3) := by decide +kernel
theorem dX9_moves_53 : decode cX9_moves 53 = .ok (.ifCond .ne 6, 3) := by decide +kernel
theorem dX9_moves_56 : decode cX9_moves 56 = .ok (.bipush (-2), 2) := by decide +kernel
theorem dX9_moves_58 : decode cX9_moves 58 = .ok (.ireturn, 1) := by decide +kernel
theorem dX9_moves_59 : decode cX9_moves 59 = .ok (.aload_n 0, 1) := by decide +kernel
theorem dX9_moves_60 : decode cX9_moves 60 = .ok (.getfield 53, 3) := by decide +kernel
theorem dX9_moves_63 : decode cX9_moves 63 = .ok (.iload_n 3, 1) := by decide +kernel
theorem dX9_moves_64 : decode cX9_moves 64 = .ok (.aaload, 1) := by decide +kernel
theorem dX9_moves_65 : decode cX9_moves 65 = .ok (.astore 7, 2) := by decide +kernel
theorem dX9_moves_67 : decode cX9_moves 67 = .ok (.aload 7, 2) := by decide +kernel
theorem dX9_moves_69 : decode cX9_moves 69 = .ok (.iload 4, 2) := by decide +kernel
theorem dX9_moves_71 : decode cX9_moves 71 = .ok (.invokevirtual 72, 3) := by decide +kernel
theorem dX9_moves_74 : decode cX9_moves 74 = .ok (.ifCond .eq 9, 3) := by decide +kernel
theorem dX9_moves_77 : decode cX9_moves 77 = .ok (.aload_n 0, 1) := by decide +kernel
theorem dX9_moves_78 : decode cX9_moves 78 = .ok (.iconst 2, 1) := by decide +kernel
theorem dX9_moves_79 : decode cX9_moves 79 = .ok (.invokevirtual 75, 3) := by decide +kernel
theorem dX9_moves_82 : decode cX9_moves 82 = .ok (.ireturn, 1) := by decide +kernel
theorem dX9_moves_83 : decode cX9_moves 83 = .ok (.aload 7, 2) := by decide +kernel
theorem dX9_moves_85 : decode cX9_moves 85 = .ok (.invokevirtual 79, 3) := by decide +kernel
theorem dX9_moves_88 : decode cX9_moves 88 = .ok (.ifCond .eq 9, 3) := by decide +kernel
theorem dX9_moves_91 : decode cX9_moves 91 = .ok (.aload_n 0, 1) := by decide +kernel
theorem dX9_moves_92 : decode cX9_moves 92 = .ok (.iconst 1, 1) := by decide +kernel
theorem dX9_moves_93 : decode cX9_moves 93 = .ok (.invokevirtual 75, 3) := by decide +kernel
theorem dX9_moves_96 : decode cX9_moves 96 = .ok (.ireturn, 1) := by decide +kernel
theorem dX9_moves_97 : decode cX9_moves 97 = .ok (.aload 7, 2) := by decide +kernel
theorem dX9_moves_99 : decode cX9_moves 99 = .ok (.iload 5, 2) := by decide +kernel
theorem dX9_moves_101 : decode cX9_moves 101 = .ok (.iload 6, 2) := by decide +kernel
theorem dX9_moves_103 : decode cX9_moves 103 = .ok (.iconst 3, 1) := by decide +kernel
theorem dX9_moves_104 : decode cX9_moves 104 = .ok (.imul, 1) := by decide +kernel
theorem dX9_moves_105 : decode cX9_moves 105 = .ok (.invokevirtual 83, 3) := by decide +kernel
theorem dX9_moves_108 : decode cX9_moves 108 = .ok (.ifCond .ne 9, 3) := by decide +kernel
theorem dX9_moves_111 : decode cX9_moves 111 = .ok (.aload_n 0, 1) := by decide +kernel
theorem dX9_moves_112 : decode cX9_moves 112 = .ok (.iconst 3, 1) := by decide +kernel
theorem dX9_moves_113 : decode cX9_moves 113 = .ok (.invokevirtual 75, 3) := by decide +kernel
theorem dX9_moves_116 : decode cX9_moves 116 = .ok (.ireturn, 1) := by decide +kernel
theorem dX9_moves_117 : decode cX9_moves 117 = .ok (.aload_n 0, 1) := by decide +kernel
theorem dX9_moves_118 : decode cX9_moves 118 = .ok (.aload 7, 2) := by decide +kernel
theorem dX9_moves_120 : decode cX9_moves 120 = .ok (.iload 5, 2) := by decide +kernel
theorem dX9_moves_122 : decode cX9_moves 122 = .ok (.iload 6, 2) := by decide +kernel
theorem dX9_moves_124 : decode cX9_moves 124 = .ok (.invokevirtual 191, 3) := by decide +kernel
theorem dX9_moves_127 : decode cX9_moves 127 = .ok (.istore 8, 2) := by decide +kernel
theorem dX9_moves_129 : decode cX9_moves 129 = .ok (.iload 8, 2) := by decide +kernel
theorem dX9_moves_131 : decode cX9_moves 131 = .ok (.ifCond .eq 6, 3) := by decide +kernel
theorem dX9_moves_134 : decode cX9_moves 134 = .ok (.iload 8, 2) := by decide +kernel
theorem dX9_moves_136 : decode cX9_moves 136 = .ok (.ireturn, 1) := by decide +kernel
theorem dX9_moves_137 : decode cX9_moves 137 = .ok (.aload_n 0, 1) := by decide +kernel
theorem dX9_moves_138 : decode cX9_moves 138 = .ok (.getfield 37, 3) := by decide +kernel
theorem dX9_moves_141 : decode cX9_moves 141 = .ok (.aload_n 0, 1) := by decide +kernel
theorem dX9_moves_142 : decode cX9_moves 142 = .ok (.getfield 14, 3) := by decide +kernel
theorem dX9_moves_145 : decode cX9_moves 145 = .ok (.aload_n 0, 1) := by decide +kernel
theorem dX9_moves_146 : decode cX9_moves 146 = .ok (.getfield 28, 3) := by decide +kernel
theorem dX9_moves_149 : decode cX9_moves 149 = .ok (.invokevirtual 154, 3) := by decide +kernel
theorem dX9_moves_152 : decode cX9_moves 152 = .ok (.aload_n 0, 1) := by decide +kernel
theorem dX9_moves_153 : decode cX9_moves 153 = .ok (.getfield 37, 3) := by decide +kernel
theorem dX9_moves_156 : decode cX9_moves 156 = .ok (.iload_n 1, 1) := by decide +kernel
theorem dX9_moves_157 : decode cX9_moves 157 = .ok (.iload_n 2, 1) := by decide +kernel
theorem dX9_moves_158 : decode cX9_moves 158 = .ok (.invokevirtual 170, 3) := by decide +kernel
theorem dX9_moves_161 : decode cX9_moves 161 = .ok (.ireturn, 1) := by decide +kernel
set_option maxRecDepth 20000 in
theorem ggX9_worth_X2_hasLamp : GoodIn wsX9_worth wsX2_hasLamp := goodIn_r _ [12, 13, 89, 90, 91, 92, 93, 94, 95, 96] rfl (by decide +kernel)
set_option maxRecDepth 20000 in
theorem gX9_worth_X2_hasLamp : GoodIn wsX9_worth (wsV RX9 126 RX2 yX2_hasLamp wsX2_hasLamp) := goodIn_app (goodIn_of _ (by decide +kernel)) ggX9_worth_X2_hasLamp
set_option maxRecDepth 20000 in
theorem ggX9_worth_X2_become : GoodIn wsX9_worth wsX2_become := goodIn_r _ [17, 18, 13, 19, 20, 21, 22, 23, 24, 25, 26, 27, 28, 89, 90, 91, 92, 93, 94, 95, 96] rfl (by decide +kernel)
set_option maxRecDepth 20000 in
theorem gX9_worth_X2_become : GoodIn wsX9_worth (wsV RX9 99 RX2 yX2_become wsX2_become) := goodIn_app (goodIn_of _ (by decide +kernel)) ggX9_worth_X2_become
set_option maxRecDepth 20000 in
theorem ggX9_worth_X8_reckon : GoodIn wsX9_worth wsX8_reckon := goodIn_r _ [33, 34, 35, 36, 37, 38, 32, 39, 40, 41, 42, 43, 44, 45, 46, 47, 48, 49, 50, 51, 52, 11, 53, 20, 25, 28, 54, 55, 56, 57, 58, 59, 60, 61, 62, 63, 64, 22, 23, 24, 65, 66, 67, 68, 69, 70, 71, 72, 73, 89, 90, 91, 92, 93, 94, 95, 96, 97, 98, 99, 100, 101, 102, 103, 104, 105] rfl (by decide +kernel)
set_option maxRecDepth 20000 in
theorem gX9_worth_X8_reckon : GoodIn wsX9_worth (wsV RX9 154 RX8 yX8_reckon wsX8_reckon) := goodIn_app (goodIn_of _ (by decide +kernel)) ggX9_worth_X8_reckon
set_option maxRecDepth 20000 in
theorem ggX9_worth_X8_allLight : GoodIn wsX9_worth wsX8_allLight := goodIn_r _ [77, 63, 47, 48, 32, 49, 97, 98, 99, 100, 101] rfl (by decide +kernel)
set_option maxRecDepth 20000 in
theorem gX9_worth_X8_allLight : GoodIn wsX9_worth (wsV RX9 198 RX8 yX8_allLight wsX8_allLight) := goodIn_app (goodIn_of _ (by decide +kernel)) ggX9_worth_X8_allLight
theorem dX9_worth_0 : decode cX9_worth 0 = .ok (.aload_n 0, 1) := by decide +kernel
theorem dX9_worth_1 : decode cX9_worth 1 = .ok (.getfield 14, 3) := by decide +kernel
theorem dX9_worth_4 : decode cX9_worth 4 = .ok (.iload_n 1, 1) := by decide +kernel
theorem dX9_worth_5 : decode cX9_worth 5 = .ok (.invokevirtual 126, 3) := by decide +kernel
theorem dX9_worth_8 : decode cX9_worth 8 = .ok (.ifCond .ne 5, 3) := by decide +kernel
theorem dX9_worth_11 : decode cX9_worth 11 = .ok (.iconst (-1), 1) := by decide +kernel
theorem dX9_worth_12 : decode cX9_worth 12 = .ok (.ireturn, 1) := by decide +kernel
theorem dX9_worth_13 : decode cX9_worth 13 = .ok (.aload_n 0, 1) := by decide +kernel
theorem dX9_worth_14 : decode cX9_worth 14 = .ok (.getfield 18, 3) := by decide +kernel
theorem dX9_worth_17 : decode cX9_worth 17 = .ok (.aload_n 0, 1) := by decide +kernel
theorem dX9_worth_18 : decode cX9_worth 18 = .ok (.getfield 14, 3) := by decide +kernel
theorem dX9_worth_21 : decode cX9_worth 21 = .ok (.invokevirtual 99, 3) := by decide +kernel
theorem dX9_worth_24 : decode cX9_worth 24 = .ok (.aload_n 0, 1) := by decide +kernel
theorem dX9_worth_25 : decode cX9_worth 25 = .ok (.getfield 18, 3) := by decide +kernel
theorem dX9_worth_28 : decode cX9_worth 28 = .ok (.getfield 129, 3) := by decide +kernel
theorem dX9_worth_31 : decode cX9_worth 31 = .ok (.iload_n 1, 1) := by decide +kernel
theorem dX9_worth_32 : decode cX9_worth 32 = .ok (.iconst 3, 1) := by decide +kernel
theorem dX9_worth_33 : decode cX9_worth 33 = .ok (.iastore, 1) := by decide +kernel
theorem dX9_worth_34 : decode cX9_worth 34 = .ok (.aload_n 0, 1) := by decide +kernel
theorem dX9_worth_35 : decode cX9_worth 35 = .ok (.getfield 37, 3) := by decide +kernel
theorem dX9_worth_38 : decode cX9_worth 38 = .ok (.aload_n 0, 1) := by decide +kernel
theorem dX9_worth_39 : decode cX9_worth 39 = .ok (.getfield 14, 3) := by decide +kernel
theorem dX9_worth_42 : decode cX9_worth 42 = .ok (.aload_n 0, 1) := by decide +kernel
theorem dX9_worth_43 : decode cX9_worth 43 = .ok (.getfield 24, 3) := by decide +kernel
theorem dX9_worth_46 : decode cX9_worth 46 = .ok (.invokevirtual 154, 3) := by decide +kernel
theorem dX9_worth_49 : decode cX9_worth 49 = .ok (.aload_n 0, 1) := by decide +kernel
theorem dX9_worth_50 : decode cX9_worth 50 = .ok (.getfield 41, 3) := by decide +kernel
theorem dX9_worth_53 : decode cX9_worth 53 = .ok (.aload_n 0, 1) := by decide +kernel
theorem dX9_worth_54 : decode cX9_worth 54 = .ok (.getfield 18, 3) := by decide +kernel
theorem dX9_worth_57 : decode cX9_worth 57 = .ok (.aload_n 0, 1) := by decide +kernel
theorem dX9_worth_58 : decode cX9_worth 58 = .ok (.getfield 24, 3) := by decide +kernel
theorem dX9_worth_61 : decode cX9_worth 61 = .ok (.invokevirtual 154, 3) := by decide +kernel
theorem dX9_worth_64 : decode cX9_worth 64 = .ok (.aload_n 0, 1) := by decide +kernel
theorem dX9_worth_65 : decode cX9_worth 65 = .ok (.getfield 37, 3) := by decide +kernel
theorem dX9_worth_68 : decode cX9_worth 68 = .ok (.aload_n 0, 1) := by decide +kernel
theorem dX9_worth_69 : decode cX9_worth 69 = .ok (.getfield 14, 3) := by decide +kernel
theorem dX9_worth_72 : decode cX9_worth 72 = .ok (.getfield 195, 3) := by decide +kernel
theorem dX9_worth_75 : decode cX9_worth 75 = .ok (.invokevirtual 198, 3) := by decide +kernel
theorem dX9_worth_78 : decode cX9_worth 78 = .ok (.aload_n 0, 1) := by decide +kernel
theorem dX9_worth_79 : decode cX9_worth 79 = .ok (.getfield 41, 3) := by decide +kernel
theorem dX9_worth_82 : decode cX9_worth 82 = .ok (.aload_n 0, 1) := by decide +kernel
theorem dX9_worth_83 : decode cX9_worth 83 = .ok (.getfield 14, 3) := by decide +kernel
theorem dX9_worth_86 : decode cX9_worth 86 = .ok (.getfield 195, 3) := by decide +kernel
theorem dX9_worth_89 : decode cX9_worth 89 = .ok (.invokevirtual 198, 3) := by decide +kernel
theorem dX9_worth_92 : decode cX9_worth 92 = .ok (.isub, 1) := by decide +kernel
theorem dX9_worth_93 : decode cX9_worth 93 = .ok (.ireturn, 1) := by decide +kernel
set_option maxRecDepth 20000 in
theorem ggX9_reading_X2_hasSpot : GoodIn wsX9_reading wsX2_hasSpot := goodIn_r _ [7, 8, 36, 37, 38, 39, 40, 41, 42, 43] rfl (by decide +kernel)
set_option maxRecDepth 20000 in
theorem gX9_reading_X2_hasSpot : GoodIn wsX9_reading (wsV RX9 120 RX2 yX2_hasSpot wsX2_hasSpot) := goodIn_app (goodIn_of _ (by decide +kernel)) ggX9_reading_X2_hasSpot
set_option maxRecDepth 20000 in
theorem ggX9_reading_X9_isWatch : GoodIn wsX9_reading wsX9_isWatch := goodIn_r _ [12, 13, 14, 11, 15] rfl (by decide +kernel)
set_option maxRecDepth 20000 in
theorem gX9_reading_X9_isWatch : GoodIn wsX9_reading (va_wsS RX9 144 yX9_isWatch wsX9_isWatch) := goodIn_app (goodIn_of _ (by decide +kernel)) ggX9_reading_X9_isWatch
set_option maxRecDepth 20000 in
theorem ggX9_reading_X9_isWithin : GoodIn wsX9_reading wsX9_isWithin := goodIn_r _ [15] rfl (by decide +kernel)
set_option maxRecDepth 20000 in
theorem gX9_reading_X9_isWithin : GoodIn wsX9_reading (va_wsS RX9 109 yX9_isWithin wsX9_isWithin) := goodIn_app (goodIn_of _ (by decide +kernel)) ggX9_reading_X9_isWithin
set_option maxRecDepth 20000 in
theorem ggX9_reading_X1_append : GoodIn wsX9_reading wsX1_append := goodIn_r _ [20, 21, 22, 23, 24, 44, 45, 46, 47] rfl (by decide +kernel)
set_option maxRecDepth 20000 in
theorem gX9_reading_X1_append : GoodIn wsX9_reading (wsV RX9 147 RX1 yX1_append wsX1_append) := goodIn_app (goodIn_of _ (by decide +kernel)) ggX9_reading_X1_append
theorem dX9_reading_0 : decode cX9_reading 0 = .ok (.aload_n 0, 1) := by decide +kernel
theorem dX9_reading_1 : decode cX9_reading 1 = .ok (.getfield 14, 3) := by decide +kernel
theorem dX9_reading_4 : decode cX9_reading 4 = .ok (.iload_n 1, 1) := by decide +kernel
theorem dX9_reading_5 : decode cX9_reading 5 = .ok (.invokevirtual 120, 3) := by decide +kernel
theorem dX9_reading_8 : decode cX9_reading 8 = .ok (.ifCond .ne 5, 3) := by decide +kernel
theorem dX9_reading_11 : decode cX9_reading 11 = .ok (.iconst (-1), 1) := by decide +kernel
theorem dX9_reading_12 : decode cX9_reading 12 = .ok (.ireturn, 1) := by decide +kernel
theorem dX9_reading_13 : decode cX9_reading 13 = .ok (.iload_n 2, 1) := by decide +kernel
theorem dX9_reading_14 : decode cX9_reading 14 = .ok (.invokestatic 144, 3) := by decide +kernel
theorem dX9_reading_17 : decode cX9_reading 17 = .ok (.ifCond .eq 14, 3) := by decide +kernel
theorem dX9_reading_20 : decode cX9_reading 20 = .ok (.iload_n 3, 1) := by decide +kernel
theorem dX9_reading_21 : decode cX9_reading 21 = .ok (.iconst 0, 1) := by decide +kernel
theorem dX9_reading_22 : decode cX9_reading 22 = .ok (.sipush 999, 3) := by decide +kernel
theorem dX9_reading_25 : decode cX9_reading 25 = .ok (.invokestatic 109, 3) := by decide +kernel
theorem dX9_reading_28 : decode cX9_reading 28 = .ok (.ifCond .ne 6, 3) := by decide +kernel
theorem dX9_reading_31 : decode cX9_reading 31 = .ok (.bipush (-2), 2) := by decide +kernel
theorem dX9_reading_33 : decode cX9_reading 33 = .ok (.ireturn, 1) := by decide +kernel
theorem dX9_reading_34 : decode cX9_reading 34 = .ok (.aload_n 0, 1) := by decide +kernel
theorem dX9_reading_35 : decode cX9_reading 35 = .ok (.getfield 31, 3) := by decide +kernel
theorem dX9_reading_38 : decode cX9_reading 38 = .ok (.iload_n 1, 1) := by decide +kernel
theorem dX9_reading_39 : decode cX9_reading 39 = .ok (.iload_n 2, 1) := by decide +kernel
theorem dX9_reading_40 : decode cX9_reading 40 = .ok (.iload_n 3, 1) := by decide +kernel
theorem dX9_reading_41 : decode cX9_reading 41 = .ok (.invokevirtual 147, 3) := by decide +kernel
theorem dX9_reading_44 : decode cX9_reading 44 = .ok (.ireturn, 1) := by decide +kernel
set_option maxRecDepth 20000 in
theorem ggX9_back_X1_takeBack : GoodIn wsX9_back wsX1_takeBack := goodIn_r _ [6, 7, 19, 20, 21, 22] rfl (by decide +kernel)
set_option maxRecDepth 20000 in
theorem gX9_back_X1_takeBack : GoodIn wsX9_back (wsV RX9 151 RX1 yX1_takeBack wsX1_takeBack) := goodIn_app (goodIn_of _ (by decide +kernel)) ggX9_back_X1_takeBack
theorem dX9_back_0 : decode cX9_back 0 = .ok (.aload_n 0, 1) := by decide +kernel
theorem dX9_back_1 : decode cX9_back 1 = .ok (.getfield 31, 3) := by decide +kernel
theorem dX9_back_4 : decode cX9_back 4 = .ok (.iload_n 1, 1) := by decide +kernel
theorem dX9_back_5 : decode cX9_back 5 = .ok (.invokevirtual 151, 3) := by decide +kernel
theorem dX9_back_8 : decode cX9_back 8 = .ok (.ireturn, 1) := by decide +kernel
set_option maxRecDepth 20000 in
theorem ggX9_stood_X2_hasLamp : GoodIn wsX9_stood wsX2_hasLamp := goodIn_r _ [9, 10, 98, 99, 100, 101, 102, 103, 104, 105] rfl (by decide +kernel)
set_option maxRecDepth 20000 in
theorem gX9_stood_X2_hasLamp : GoodIn wsX9_stood (wsV RX9 126 RX2 yX2_hasLamp wsX2_hasLamp) := goodIn_app (goodIn_of _ (by decide +kernel)) ggX9_stood_X2_hasLamp
set_option maxRecDepth 20000 in
theorem ggX9_stood_X2_become : GoodIn wsX9_stood wsX2_become := goodIn_r _ [14, 15, 10, 16, 17, 18, 19, 20, 21, 22, 23, 24, 25, 98, 99, 100, 101, 102, 103, 104, 105] rfl (by decide +kernel)
set_option maxRecDepth 20000 in
theorem gX9_stood_X2_become : GoodIn wsX9_stood (wsV RX9 99 RX2 yX2_become wsX2_become) := goodIn_app (goodIn_of _ (by decide +kernel)) ggX9_stood_X2_become
set_option maxRecDepth 20000 in
theorem ggX9_stood_X9_bitIfReadingsHold : GoodIn wsX9_stood wsX9_bitIfReadingsHold := goodIn_r _ [30, 31, 2, 32, 33, 34, 35, 36, 37, 38, 39, 40, 41, 42, 43, 44, 45, 46, 47, 48, 49, 50, 51, 52, 53, 54, 55, 56, 57, 58, 59, 60, 61, 8, 62, 17, 22, 25, 63, 64, 65, 66, 67, 68, 69, 70, 71, 72, 73, 19, 20, 21, 74, 75, 76, 77, 78, 79, 80, 81, 82, 83, 84, 85, 86, 87, 88, 89, 90, 91, 92, 93, 94, 95, 96, 97, 106, 107, 108, 109, 98, 99, 100, 101, 102, 103, 104, 105, 110, 111, 112, 113, 114] rfl (by decide +kernel)
set_option maxRecDepth 20000 in
theorem gX9_stood_X9_bitIfReadingsHold : GoodIn wsX9_stood (wsV RX9 201 RX9 yX9_bitIfReadingsHold wsX9_bitIfReadingsHold) := goodIn_app (goodIn_of _ (by decide +kernel)) ggX9_stood_X9_bitIfReadingsHold
theorem dX9_stood_0 : decode cX9_stood 0 = .ok (.aload_n 0, 1) := by decide +kernel
theorem dX9_stood_1 : decode cX9_stood 1 = .ok (.getfield 14, 3) := by decide +kernel
theorem dX9_stood_4 : decode cX9_stood 4 = .ok (.iload_n 1, 1) := by decide +kernel
theorem dX9_stood_5 : decode cX9_stood 5 = .ok (.invokevirtual 126, 3) := by decide +kernel
theorem dX9_stood_8 : decode cX9_stood 8 = .ok (.ifCond .ne 5, 3) := by decide +kernel
theorem dX9_stood_11 : decode cX9_stood 11 = .ok (.iconst (-1), 1) := by decide +kernel
theorem dX9_stood_12 : decode cX9_stood 12 = .ok (.ireturn, 1) := by decide +kernel
theorem dX9_stood_13 : decode cX9_stood 13 = .ok (.aload_n 0, 1) := by decide +kernel
theorem dX9_stood_14 : decode cX9_stood 14 = .ok (.getfield 18, 3) := by decide +kernel
theorem dX9_stood_17 : decode cX9_stood 17 = .ok (.aload_n 0, 1) := by decide +kernel
theorem dX9_stood_18 : decode cX9_stood 18 = .ok (.getfield 14, 3) := by decide +kernel
theorem dX9_stood_21 : decode cX9_stood 21 = .ok (.invokevirtual 99, 3) := by decide +kernel
theorem dX9_stood_24 : decode cX9_stood 24 = .ok (.iconst 0, 1) := by decide +kernel
theorem dX9_stood_25 : decode cX9_stood 25 = .ok (.istore_n 2, 1) := by decide +kernel
theorem dX9_stood_26 : decode cX9_stood 26 = .ok (.iconst 0, 1) := by decide +kernel
theorem dX9_stood_27 : decode cX9_stood 27 = .ok (.istore_n 3, 1) := by decide +kernel
theorem dX9_stood_28 : decode cX9_stood 28 = .ok (.iload_n 3, 1) := by decide +kernel
theorem dX9_stood_29 : decode cX9_stood 29 = .ok (.aload_n 0, 1) := by decide +kernel
theorem dX9_stood_30 : decode cX9_stood 30 = .ok (.getfield 14, 3) := by decide +kernel
theorem dX9_stood_33 : decode cX9_stood 33 = .ok (.getfield 195, 3) := by decide +kernel
theorem dX9_stood_36 : decode cX9_stood 36 = .ok (.if_icmp .ge 27, 3) := by decide +kernel
theorem dX9_stood_39 : decode cX9_stood 39 = .ok (.aload_n 0, 1) := by decide +kernel
theorem dX9_stood_40 : decode cX9_stood 40 = .ok (.getfield 18, 3) := by decide +kernel
theorem dX9_stood_43 : decode cX9_stood 43 = .ok (.getfield 132, 3) := by decide +kernel
theorem dX9_stood_46 : decode cX9_stood 46 = .ok (.iload_n 1, 1) := by decide +kernel
theorem dX9_stood_47 : decode cX9_stood 47 = .ok (.iload_n 3, 1) := by decide +kernel
theorem dX9_stood_48 : decode cX9_stood 48 = .ok (.iastore, 1) := by decide +kernel
theorem dX9_stood_49 : decode cX9_stood 49 = .ok (.iload_n 2, 1) := by decide +kernel
theorem dX9_stood_50 : decode cX9_stood 50 = .ok (.aload_n 0, 1) := by decide +kernel
theorem dX9_stood_51 : decode cX9_stood 51 = .ok (.iload_n 3, 1) := by decide +kernel
theorem dX9_stood_52 : decode cX9_stood 52 = .ok (.invokevirtual 201, 3) := by decide +kernel
theorem dX9_stood_55 : decode cX9_stood 55 = .ok (.ior, 1) := by decide +kernel
theorem dX9_stood_56 : decode cX9_stood 56 = .ok (.istore_n 2, 1) := by decide +kernel
theorem dX9_stood_57 : decode cX9_stood 57 = .ok (.iinc 3 1, 3) := by decide +kernel
theorem dX9_stood_60 : decode cX9_stood 60 = .ok (.goto (-32), 3) := by decide +kernel
theorem dX9_stood_63 : decode cX9_stood 63 = .ok (.iload_n 2, 1) := by decide +kernel
theorem dX9_stood_64 : decode cX9_stood 64 = .ok (.ireturn, 1) := by decide +kernel
set_option maxRecDepth 20000 in
theorem ggX9_kinds_X2_hasLamp : GoodIn wsX9_kinds wsX2_hasLamp := goodIn_r _ [8, 9, 97, 98, 99, 100, 101, 102, 103, 104] rfl (by decide +kernel)
set_option maxRecDepth 20000 in
theorem gX9_kinds_X2_hasLamp : GoodIn wsX9_kinds (wsV RX9 126 RX2 yX2_hasLamp wsX2_hasLamp) := goodIn_app (goodIn_of _ (by decide +kernel)) ggX9_kinds_X2_hasLamp
set_option maxRecDepth 20000 in
theorem ggX9_kinds_X2_become : GoodIn wsX9_kinds wsX2_become := goodIn_r _ [13, 14, 9, 15, 16, 17, 18, 19, 20, 21, 22, 23, 24, 97, 98, 99, 100, 101, 102, 103, 104] rfl (by decide +kernel)
set_option maxRecDepth 20000 in
theorem gX9_kinds_X2_become : GoodIn wsX9_kinds (wsV RX9 99 RX2 yX2_become wsX2_become) := goodIn_app (goodIn_of _ (by decide +kernel)) ggX9_kinds_X2_become
set_option maxRecDepth 20000 in
theorem ggX9_kinds_X9_bitIfReadingsHold : GoodIn wsX9_kinds wsX9_bitIfReadingsHold := goodIn_r _ [29, 30, 2, 31, 32, 33, 34, 35, 36, 37, 38, 39, 40, 41, 42, 43, 44, 45, 46, 47, 48, 49, 50, 51, 52, 53, 54, 55, 56, 57, 58, 59, 60, 7, 61, 16, 21, 24, 62, 63, 64, 65, 66, 67, 68, 69, 70, 71, 72, 18, 19, 20, 73, 74, 75, 76, 77, 78, 79, 80, 81, 82, 83, 84, 85, 86, 87, 88, 89, 90, 91, 92, 93, 94, 95, 96, 105, 106, 107, 108, 97, 98, 99, 100, 101, 102, 103, 104, 109, 110, 111, 112, 113] rfl (by decide +kernel)
set_option maxRecDepth 20000 in
theorem gX9_kinds_X9_bitIfReadingsHold : GoodIn wsX9_kinds (wsV RX9 201 RX9 yX9_bitIfReadingsHold wsX9_bitIfReadingsHold) := goodIn_app (goodIn_of _ (by decide +kernel)) ggX9_kinds_X9_bitIfReadingsHold
theorem dX9_kinds_0 : decode cX9_kinds 0 = .ok (.aload_n 0, 1) := by decide +kernel
theorem dX9_kinds_1 : decode cX9_kinds 1 = .ok (.getfield 14, 3) := by decide +kernel
theorem dX9_kinds_4 : decode cX9_kinds 4 = .ok (.iload_n 1, 1) := by decide +kernel
theorem dX9_kinds_5 : decode cX9_kinds 5 = .ok (.invokevirtual 126, 3) := by decide +kernel
theorem dX9_kinds_8 : decode cX9_kinds 8 = .ok (.ifCond .ne 5, 3) := by decide +kernel
theorem dX9_kinds_11 : decode cX9_kinds 11 = .ok (.iconst (-1), 1) := by decide +kernel
theorem dX9_kinds_12 : decode cX9_kinds 12 = .ok (.ireturn, 1) := by decide +kernel
theorem dX9_kinds_13 : decode cX9_kinds 13 = .ok (.aload_n 0, 1) := by decide +kernel
theorem dX9_kinds_14 : decode cX9_kinds 14 = .ok (.getfield 18, 3) := by decide +kernel
theorem dX9_kinds_17 : decode cX9_kinds 17 = .ok (.aload_n 0, 1) := by decide +kernel
theorem dX9_kinds_18 : decode cX9_kinds 18 = .ok (.getfield 14, 3) := by decide +kernel
theorem dX9_kinds_21 : decode cX9_kinds 21 = .ok (.invokevirtual 99, 3) := by decide +kernel
theorem dX9_kinds_24 : decode cX9_kinds 24 = .ok (.iconst 0, 1) := by decide +kernel
theorem dX9_kinds_25 : decode cX9_kinds 25 = .ok (.istore_n 2, 1) := by decide +kernel
theorem dX9_kinds_26 : decode cX9_kinds 26 = .ok (.iconst 0, 1) := by decide +kernel
theorem dX9_kinds_27 : decode cX9_kinds 27 = .ok (.istore_n 3, 1) := by decide +kernel
theorem dX9_kinds_28 : decode cX9_kinds 28 = .ok (.iload_n 3, 1) := by decide +kernel
theorem dX9_kinds_29 : decode cX9_kinds 29 = .ok (.iconst 2, 1) := by decide +kernel
theorem dX9_kinds_30 : decode cX9_kinds 30 = .ok (.if_icmp .gt 27, 3) := by decide +kernel
theorem dX9_kinds_33 : decode cX9_kinds 33 = .ok (.aload_n 0, 1) := by decide +kernel
theorem dX9_kinds_34 : decode cX9_kinds 34 = .ok (.getfield 18, 3) := by decide +kernel
theorem dX9_kinds_37 : decode cX9_kinds 37 = .ok (.getfield 129, 3) := by decide +kernel
theorem dX9_kinds_40 : decode cX9_kinds 40 = .ok (.iload_n 1, 1) := by decide +kernel
theorem dX9_kinds_41 : decode cX9_kinds 41 = .ok (.iload_n 3, 1) := by decide +kernel
theorem dX9_kinds_42 : decode cX9_kinds 42 = .ok (.iastore, 1) := by decide +kernel
theorem dX9_kinds_43 : decode cX9_kinds 43 = .ok (.iload_n 2, 1) := by decide +kernel
theorem dX9_kinds_44 : decode cX9_kinds 44 = .ok (.aload_n 0, 1) := by decide +kernel
theorem dX9_kinds_45 : decode cX9_kinds 45 = .ok (.iload_n 3, 1) := by decide +kernel
theorem dX9_kinds_46 : decode cX9_kinds 46 = .ok (.invokevirtual 201, 3) := by decide +kernel
theorem dX9_kinds_49 : decode cX9_kinds 49 = .ok (.ior, 1) := by decide +kernel
theorem dX9_kinds_50 : decode cX9_kinds 50 = .ok (.istore_n 2, 1) := by decide +kernel
theorem dX9_kinds_51 : decode cX9_kinds 51 = .ok (.iinc 3 1, 3) := by decide +kernel
theorem dX9_kinds_54 : decode cX9_kinds 54 = .ok (.goto (-26), 3) := by decide +kernel
theorem dX9_kinds_57 : decode cX9_kinds 57 = .ok (.iload_n 2, 1) := by decide +kernel
theorem dX9_kinds_58 : decode cX9_kinds 58 = .ok (.ireturn, 1) := by decide +kernel
set_option maxRecDepth 20000 in
theorem ggX9_ages_X2_isThere : GoodIn wsX9_ages wsX2_isThere := goodIn_r _ [8, 9, 97, 98, 99, 100, 101, 102, 103, 104] rfl (by decide +kernel)
set_option maxRecDepth 20000 in
theorem gX9_ages_X2_isThere : GoodIn wsX9_ages (wsV RX9 113 RX2 yX2_isThere wsX2_isThere) := goodIn_app (goodIn_of _ (by decide +kernel)) ggX9_ages_X2_isThere
set_option maxRecDepth 20000 in
theorem ggX9_ages_X2_become : GoodIn wsX9_ages wsX2_become := goodIn_r _ [13, 14, 9, 15, 16, 17, 18, 19, 20, 21, 22, 23, 24, 97, 98, 99, 100, 101, 102, 103, 104] rfl (by decide +kernel)
set_option maxRecDepth 20000 in
theorem gX9_ages_X2_become : GoodIn wsX9_ages (wsV RX9 99 RX2 yX2_become wsX2_become) := goodIn_app (goodIn_of _ (by decide +kernel)) ggX9_ages_X2_become
set_option maxRecDepth 20000 in
theorem ggX9_ages_X9_bitIfReadingsHold : GoodIn wsX9_ages wsX9_bitIfReadingsHold := goodIn_r _ [29, 30, 2, 31, 32, 33, 34, 35, 36, 37, 38, 39, 40, 41, 42, 43, 44, 45, 46, 47, 48, 49, 50, 51, 52, 53, 54, 55, 56, 57, 58, 59, 60, 7, 61, 16, 21, 24, 62, 63, 64, 65, 66, 67, 68, 69, 70, 71, 72, 18, 19, 20, 73, 74, 75, 76, 77, 78, 79, 80, 81, 82, 83, 84, 85, 86, 87, 88, 89, 90, 91, 92, 93, 94, 95, 96, 105, 106, 107, 108, 97, 98, 99, 100, 101, 102, 103, 104, 109, 110, 111, 112, 113] rfl (by decide +kernel)
set_option maxRecDepth 20000 in
theorem gX9_ages_X9_bitIfReadingsHold : GoodIn wsX9_ages (wsV RX9 201 RX9 yX9_bitIfReadingsHold wsX9_bitIfReadingsHold) := goodIn_app (goodIn_of _ (by decide +kernel)) ggX9_ages_X9_bitIfReadingsHold
theorem dX9_ages_0 : decode cX9_ages 0 = .ok (.aload_n 0, 1) := by decide +kernel
theorem dX9_ages_1 : decode cX9_ages 1 = .ok (.getfield 14, 3) := by decide +kernel
theorem dX9_ages_4 : decode cX9_ages 4 = .ok (.invokevirtual 113, 3) := by decide +kernel
theorem dX9_ages_7 : decode cX9_ages 7 = .ok (.ifCond .ne 6, 3) := by decide +kernel
theorem dX9_ages_10 : decode cX9_ages 10 = .ok (.bipush (-3), 2) := by decide +kernel
theorem dX9_ages_12 : decode cX9_ages 12 = .ok (.ireturn, 1) := by decide +kernel
theorem dX9_ages_13 : decode cX9_ages 13 = .ok (.aload_n 0, 1) := by decide +kernel
theorem dX9_ages_14 : decode cX9_ages 14 = .ok (.getfield 18, 3) := by decide +kernel
theorem dX9_ages_17 : decode cX9_ages 17 = .ok (.aload_n 0, 1) := by decide +kernel
theorem dX9_ages_18 : decode cX9_ages 18 = .ok (.getfield 14, 3) := by decide +kernel
theorem dX9_ages_21 : decode cX9_ages 21 = .ok (.invokevirtual 99, 3) := by decide +kernel
theorem dX9_ages_24 : decode cX9_ages 24 = .ok (.iconst 0, 1) := by decide +kernel
theorem dX9_ages_25 : decode cX9_ages 25 = .ok (.istore_n 1, 1) := by decide +kernel
theorem dX9_ages_26 : decode cX9_ages 26 = .ok (.iconst 1, 1) := by decide +kernel
theorem dX9_ages_27 : decode cX9_ages 27 = .ok (.istore_n 2, 1) := by decide +kernel
theorem dX9_ages_28 : decode cX9_ages 28 = .ok (.iload_n 2, 1) := by decide +kernel
theorem dX9_ages_29 : decode cX9_ages 29 = .ok (.bipush 12, 2) := by decide +kernel
theorem dX9_ages_31 : decode cX9_ages 31 = .ok (.if_icmp .gt 25, 3) := by decide +kernel
theorem dX9_ages_34 : decode cX9_ages 34 = .ok (.aload_n 0, 1) := by decide +kernel
theorem dX9_ages_35 : decode cX9_ages 35 = .ok (.getfield 18, 3) := by decide +kernel
theorem dX9_ages_38 : decode cX9_ages 38 = .ok (.iload_n 2, 1) := by decide +kernel
theorem dX9_ages_39 : decode cX9_ages 39 = .ok (.putfield 141, 3) := by decide +kernel
theorem dX9_ages_42 : decode cX9_ages 42 = .ok (.iload_n 1, 1) := by decide +kernel
theorem dX9_ages_43 : decode cX9_ages 43 = .ok (.aload_n 0, 1) := by decide +kernel
theorem dX9_ages_44 : decode cX9_ages 44 = .ok (.iload_n 2, 1) := by decide +kernel
theorem dX9_ages_45 : decode cX9_ages 45 = .ok (.invokevirtual 201, 3) := by decide +kernel
theorem dX9_ages_48 : decode cX9_ages 48 = .ok (.ior, 1) := by decide +kernel
theorem dX9_ages_49 : decode cX9_ages 49 = .ok (.istore_n 1, 1) := by decide +kernel
theorem dX9_ages_50 : decode cX9_ages 50 = .ok (.iinc 2 1, 3) := by decide +kernel
theorem dX9_ages_53 : decode cX9_ages 53 = .ok (.goto (-25), 3) := by decide +kernel
theorem dX9_ages_56 : decode cX9_ages 56 = .ok (.iload_n 1, 1) := by decide +kernel
theorem dX9_ages_57 : decode cX9_ages 57 = .ok (.ireturn, 1) := by decide +kernel
set_option maxRecDepth 20000 in
theorem ggX9_clouds_X9_isDay : GoodIn wsX9_clouds wsX9_isDay := goodIn_r _ [7, 8, 9, 6, 10] rfl (by decide +kernel)
set_option maxRecDepth 20000 in
theorem gX9_clouds_X9_isDay : GoodIn wsX9_clouds (va_wsS RX9 135 yX9_isDay wsX9_isDay) := goodIn_app (goodIn_of _ (by decide +kernel)) ggX9_clouds_X9_isDay
set_option maxRecDepth 20000 in
theorem ggX9_clouds_X2_isThere : GoodIn wsX9_clouds wsX2_isThere := goodIn_r _ [15, 16, 103, 104, 105, 106, 107, 108, 109, 110] rfl (by decide +kernel)
set_option maxRecDepth 20000 in
theorem gX9_clouds_X2_isThere : GoodIn wsX9_clouds (wsV RX9 113 RX2 yX2_isThere wsX2_isThere) := goodIn_app (goodIn_of _ (by decide +kernel)) ggX9_clouds_X2_isThere
set_option maxRecDepth 20000 in
theorem ggX9_clouds_X2_become : GoodIn wsX9_clouds wsX2_become := goodIn_r _ [20, 21, 16, 22, 23, 24, 25, 26, 27, 28, 29, 30, 31, 103, 104, 105, 106, 107, 108, 109, 110] rfl (by decide +kernel)
set_option maxRecDepth 20000 in
theorem gX9_clouds_X2_become : GoodIn wsX9_clouds (wsV RX9 99 RX2 yX2_become wsX2_become) := goodIn_app (goodIn_of _ (by decide +kernel)) ggX9_clouds_X2_become
set_option maxRecDepth 20000 in
theorem ggX9_clouds_X9_bitIfReadingsHold : GoodIn wsX9_clouds wsX9_bitIfReadingsHold := goodIn_r _ [35, 36, 2, 37, 38, 39, 40, 41, 42, 43, 44, 45, 46, 47, 48, 49, 50, 51, 52, 53, 54, 55, 56, 57, 58, 59, 60, 61, 62, 63, 64, 65, 66, 14, 67, 23, 28, 31, 68, 69, 70, 71, 72, 73, 74, 75, 76, 77, 78, 25, 26, 27, 79, 80, 81, 82, 83, 84, 85, 86, 87, 88, 89, 90, 91, 92, 93, 94, 95, 96, 97, 98, 99, 100, 101, 102, 111, 112, 113, 114, 103, 104, 105, 106, 107, 108, 109, 110, 115, 116, 117, 118, 119] rfl (by decide +kernel)
set_option maxRecDepth 20000 in
theorem gX9_clouds_X9_bitIfReadingsHold : GoodIn wsX9_clouds (wsV RX9 201 RX9 yX9_bitIfReadingsHold wsX9_bitIfReadingsHold) := goodIn_app (goodIn_of _ (by decide +kernel)) ggX9_clouds_X9_bitIfReadingsHold
theorem dX9_clouds_0 : decode cX9_clouds 0 = .ok (.iload_n 1, 1) := by decide +kernel
theorem dX9_clouds_1 : decode cX9_clouds 1 = .ok (.invokestatic 135, 3) := by decide +kernel
theorem dX9_clouds_4 : decode cX9_clouds 4 = .ok (.ifCond .ne 6, 3) := by decide +kernel
theorem dX9_clouds_7 : decode cX9_clouds 7 = .ok (.bipush (-2), 2) := by decide +kernel
theorem dX9_clouds_9 : decode cX9_clouds 9 = .ok (.ireturn, 1) := by decide +kernel
theorem dX9_clouds_10 : decode cX9_clouds 10 = .ok (.aload_n 0, 1) := by decide +kernel
theorem dX9_clouds_11 : decode cX9_clouds 11 = .ok (.getfield 14, 3) := by decide +kernel
theorem dX9_clouds_14 : decode cX9_clouds 14 = .ok (.invokevirtual 113, 3) := by decide +kernel
theorem dX9_clouds_17 : decode cX9_clouds 17 = .ok (.ifCond .ne 6, 3) := by decide +kernel
theorem dX9_clouds_20 : decode cX9_clouds 20 = .ok (.bipush (-3), 2) := by decide +kernel
theorem dX9_clouds_22 : decode cX9_clouds 22 = .ok (.ireturn, 1) := by decide +kernel
theorem dX9_clouds_23 : decode cX9_clouds 23 = .ok (.aload_n 0, 1) := by decide +kernel
theorem dX9_clouds_24 : decode cX9_clouds 24 = .ok (.getfield 18, 3) := by decide +kernel
theorem dX9_clouds_27 : decode cX9_clouds 27 = .ok (.aload_n 0, 1) := by decide +kernel
theorem dX9_clouds_28 : decode cX9_clouds 28 = .ok (.getfield 14, 3) := by decide +kernel
theorem dX9_clouds_31 : decode cX9_clouds 31 = .ok (.invokevirtual 99, 3) := by decide +kernel
theorem dX9_clouds_34 : decode cX9_clouds 34 = .ok (.iconst 0, 1) := by decide +kernel
theorem dX9_clouds_35 : decode cX9_clouds 35 = .ok (.istore_n 2, 1) := by decide +kernel
theorem dX9_clouds_36 : decode cX9_clouds 36 = .ok (.iconst 0, 1) := by decide +kernel
theorem dX9_clouds_37 : decode cX9_clouds 37 = .ok (.istore_n 3, 1) := by decide +kernel
theorem dX9_clouds_38 : decode cX9_clouds 38 = .ok (.iload_n 3, 1) := by decide +kernel
theorem dX9_clouds_39 : decode cX9_clouds 39 = .ok (.bipush 9, 2) := by decide +kernel
theorem dX9_clouds_41 : decode cX9_clouds 41 = .ok (.if_icmp .gt 27, 3) := by decide +kernel
theorem dX9_clouds_44 : decode cX9_clouds 44 = .ok (.aload_n 0, 1) := by decide +kernel
theorem dX9_clouds_45 : decode cX9_clouds 45 = .ok (.getfield 18, 3) := by decide +kernel
theorem dX9_clouds_48 : decode cX9_clouds 48 = .ok (.getfield 138, 3) := by decide +kernel
theorem dX9_clouds_51 : decode cX9_clouds 51 = .ok (.iload_n 1, 1) := by decide +kernel
theorem dX9_clouds_52 : decode cX9_clouds 52 = .ok (.iload_n 3, 1) := by decide +kernel
theorem dX9_clouds_53 : decode cX9_clouds 53 = .ok (.iastore, 1) := by decide +kernel
theorem dX9_clouds_54 : decode cX9_clouds 54 = .ok (.iload_n 2, 1) := by decide +kernel
theorem dX9_clouds_55 : decode cX9_clouds 55 = .ok (.aload_n 0, 1) := by decide +kernel
theorem dX9_clouds_56 : decode cX9_clouds 56 = .ok (.iload_n 3, 1) := by decide +kernel
theorem dX9_clouds_57 : decode cX9_clouds 57 = .ok (.invokevirtual 201, 3) := by decide +kernel
theorem dX9_clouds_60 : decode cX9_clouds 60 = .ok (.ior, 1) := by decide +kernel
theorem dX9_clouds_61 : decode cX9_clouds 61 = .ok (.istore_n 2, 1) := by decide +kernel
theorem dX9_clouds_62 : decode cX9_clouds 62 = .ok (.iinc 3 1, 3) := by decide +kernel
theorem dX9_clouds_65 : decode cX9_clouds 65 = .ok (.goto (-27), 3) := by decide +kernel
theorem dX9_clouds_68 : decode cX9_clouds 68 = .ok (.iload_n 2, 1) := by decide +kernel
theorem dX9_clouds_69 : decode cX9_clouds 69 = .ok (.ireturn, 1) := by decide +kernel
set_option maxRecDepth 20000 in
theorem ggX9_odds_X2_hasSpot : GoodIn wsX9_odds wsX2_hasSpot := goodIn_r _ [7, 8, 99, 100, 101, 102, 103, 104, 105, 106] rfl (by decide +kernel)
set_option maxRecDepth 20000 in
theorem gX9_odds_X2_hasSpot : GoodIn wsX9_odds (wsV RX9 120 RX2 yX2_hasSpot wsX2_hasSpot) := goodIn_app (goodIn_of _ (by decide +kernel)) ggX9_odds_X2_hasSpot
set_option maxRecDepth 20000 in
theorem ggX9_odds_X9_isWatch : GoodIn wsX9_odds wsX9_isWatch := goodIn_r _ [12, 13, 14, 11, 15] rfl (by decide +kernel)
set_option maxRecDepth 20000 in
theorem gX9_odds_X9_isWatch : GoodIn wsX9_odds (va_wsS RX9 144 yX9_isWatch wsX9_isWatch) := goodIn_app (goodIn_of _ (by decide +kernel)) ggX9_odds_X9_isWatch
set_option maxRecDepth 20000 in
theorem ggX9_odds_X9_isWithin : GoodIn wsX9_odds wsX9_isWithin := goodIn_r _ [15] rfl (by decide +kernel)
set_option maxRecDepth 20000 in
theorem gX9_odds_X9_isWithin : GoodIn wsX9_odds (va_wsS RX9 109 yX9_isWithin wsX9_isWithin) := goodIn_app (goodIn_of _ (by decide +kernel)) ggX9_odds_X9_isWithin
set_option maxRecDepth 20000 in
theorem ggX9_odds_X9_countCases : GoodIn wsX9_odds wsX9_countCases := goodIn_r _ [19, 20, 1, 21, 22, 23, 24, 25, 26, 6, 27, 8, 28, 29, 30, 31, 32, 33, 34, 35, 36, 37, 38, 39, 40, 41, 42, 43, 44, 45, 46, 47, 48, 49, 50, 51, 52, 53, 54, 55, 56, 57, 58, 59, 60, 61, 62, 63, 64, 65, 66, 67, 68, 69, 70, 71, 72, 73, 74, 75, 76, 77, 78, 79, 80, 81, 82, 83, 84, 85, 86, 87, 88, 89, 90, 91, 92, 93, 94, 95, 96, 97, 98, 99, 100, 101, 102, 103, 104, 105, 106, 107, 108, 109, 110, 111, 112, 113, 114, 115] rfl (by decide +kernel)
set_option maxRecDepth 20000 in
theorem gX9_odds_X9_countCases : GoodIn wsX9_odds (wsV RX9 206 RX9 yX9_countCases wsX9_countCases) := goodIn_app (goodIn_of _ (by decide +kernel)) ggX9_odds_X9_countCases
theorem dX9_odds_0 : decode cX9_odds 0 = .ok (.aload_n 0, 1) := by decide +kernel
theorem dX9_odds_1 : decode cX9_odds 1 = .ok (.getfield 14, 3) := by decide +kernel
theorem dX9_odds_4 : decode cX9_odds 4 = .ok (.iload_n 1, 1) := by decide +kernel
theorem dX9_odds_5 : decode cX9_odds 5 = .ok (.invokevirtual 120, 3) := by decide +kernel
theorem dX9_odds_8 : decode cX9_odds 8 = .ok (.ifCond .ne 7, 3) := by decide +kernel
theorem dX9_odds_11 : decode cX9_odds 11 = .ok (.ldc2_w 204, 3) := by decide +kernel
theorem dX9_odds_14 : decode cX9_odds 14 = .ok (.lreturn, 1) := by decide +kernel
theorem dX9_odds_15 : decode cX9_odds 15 = .ok (.iload_n 2, 1) := by decide +kernel
theorem dX9_odds_16 : decode cX9_odds 16 = .ok (.invokestatic 144, 3) := by decide +kernel
theorem dX9_odds_19 : decode cX9_odds 19 = .ok (.ifCond .eq 24, 3) := by decide +kernel
theorem dX9_odds_22 : decode cX9_odds 22 = .ok (.iload_n 3, 1) := by decide +kernel
theorem dX9_odds_23 : decode cX9_odds 23 = .ok (.iconst 0, 1) := by decide +kernel
theorem dX9_odds_24 : decode cX9_odds 24 = .ok (.sipush 999, 3) := by decide +kernel
theorem dX9_odds_27 : decode cX9_odds 27 = .ok (.invokestatic 109, 3) := by decide +kernel
theorem dX9_odds_30 : decode cX9_odds 30 = .ok (.ifCond .eq 13, 3) := by decide +kernel
theorem dX9_odds_33 : decode cX9_odds 33 = .ok (.iload 4, 2) := by decide +kernel
theorem dX9_odds_35 : decode cX9_odds 35 = .ok (.iconst 0, 1) := by decide +kernel
theorem dX9_odds_36 : decode cX9_odds 36 = .ok (.iconst 1, 1) := by decide +kernel
theorem dX9_odds_37 : decode cX9_odds 37 = .ok (.invokestatic 109, 3) := by decide +kernel
theorem dX9_odds_40 : decode cX9_odds 40 = .ok (.ifCond .ne 7, 3) := by decide +kernel
theorem dX9_odds_43 : decode cX9_odds 43 = .ok (.ldc2_w 204, 3) := by decide +kernel
theorem dX9_odds_46 : decode cX9_odds 46 = .ok (.lreturn, 1) := by decide +kernel
theorem dX9_odds_47 : decode cX9_odds 47 = .ok (.bipush 16, 2) := by decide +kernel
theorem dX9_odds_49 : decode cX9_odds 49 = .ok (.istore 5, 2) := by decide +kernel
theorem dX9_odds_51 : decode cX9_odds 51 = .ok (.aload_n 0, 1) := by decide +kernel
theorem dX9_odds_52 : decode cX9_odds 52 = .ok (.iload_n 1, 1) := by decide +kernel
theorem dX9_odds_53 : decode cX9_odds 53 = .ok (.iload_n 2, 1) := by decide +kernel
theorem dX9_odds_54 : decode cX9_odds 54 = .ok (.iload_n 3, 1) := by decide +kernel
theorem dX9_odds_55 : decode cX9_odds 55 = .ok (.iload 5, 2) := by decide +kernel
theorem dX9_odds_57 : decode cX9_odds 57 = .ok (.invokevirtual 206, 3) := by decide +kernel
theorem dX9_odds_60 : decode cX9_odds 60 = .ok (.istore 6, 2) := by decide +kernel
theorem dX9_odds_62 : decode cX9_odds 62 = .ok (.iload 5, 2) := by decide +kernel
theorem dX9_odds_64 : decode cX9_odds 64 = .ok (.istore 7, 2) := by decide +kernel
theorem dX9_odds_66 : decode cX9_odds 66 = .ok (.iconst 0, 1) := by decide +kernel
theorem dX9_odds_67 : decode cX9_odds 67 = .ok (.istore 8, 2) := by decide +kernel
theorem dX9_odds_69 : decode cX9_odds 69 = .ok (.iload 8, 2) := by decide +kernel
theorem dX9_odds_71 : decode cX9_odds 71 = .ok (.iconst 4, 1) := by decide +kernel
theorem dX9_odds_72 : decode cX9_odds 72 = .ok (.if_icmp .ge 23, 3) := by decide +kernel
theorem dX9_odds_75 : decode cX9_odds 75 = .ok (.iload 6, 2) := by decide +kernel
theorem dX9_odds_77 : decode cX9_odds 77 = .ok (.iload 7, 2) := by decide +kernel
theorem dX9_odds_79 : decode cX9_odds 79 = .ok (.irem, 1) := by decide +kernel
theorem dX9_odds_80 : decode cX9_odds 80 = .ok (.ifCond .eq 15, 3) := by decide +kernel
theorem dX9_odds_83 : decode cX9_odds 83 = .ok (.iload 7, 2) := by decide +kernel
theorem dX9_odds_85 : decode cX9_odds 85 = .ok (.iconst 2, 1) := by decide +kernel
theorem dX9_odds_86 : decode cX9_odds 86 = .ok (.idiv, 1) := by decide +kernel
theorem dX9_odds_87 : decode cX9_odds 87 = .ok (.istore 7, 2) := by decide +kernel
theorem dX9_odds_89 : decode cX9_odds 89 = .ok (.iinc 8 1, 3) := by decide +kernel
theorem dX9_odds_92 : decode cX9_odds 92 = .ok (.goto (-23), 3) := by decide +kernel
theorem dX9_odds_95 : decode cX9_odds 95 = .ok (.iload 4, 2) := by decide +kernel
theorem dX9_odds_97 : decode cX9_odds 97 = .ok (.ifCond .ne 12, 3) := by decide +kernel
theorem dX9_odds_100 : decode cX9_odds 100 = .ok (.iload 6, 2) := by decide +kernel
theorem dX9_odds_102 : decode cX9_odds 102 = .ok (.iload 7, 2) := by decide +kernel
theorem dX9_odds_104 : decode cX9_odds 104 = .ok (.idiv, 1) := by decide +kernel
theorem dX9_odds_105 : decode cX9_odds 105 = .ok (.i2l, 1) := by decide +kernel
theorem dX9_odds_106 : decode cX9_odds 106 = .ok (.goto 9, 3) := by decide +kernel
theorem dX9_odds_109 : decode cX9_odds 109 = .ok (.iload 5, 2) := by decide +kernel
theorem dX9_odds_111 : decode cX9_odds 111 = .ok (.iload 7, 2) := by decide +kernel
theorem dX9_odds_113 : decode cX9_odds 113 = .ok (.idiv, 1) := by decide +kernel
theorem dX9_odds_114 : decode cX9_odds 114 = .ok (.i2l, 1) := by decide +kernel
theorem dX9_odds_115 : decode cX9_odds 115 = .ok (.lreturn, 1) := by decide +kernel
set_option maxRecDepth 20000 in
theorem ggX9_sheet_X9_isSheet : GoodIn wsX9_sheet wsX9_isSheet := goodIn_r _ [6, 7, 8, 5, 9] rfl (by decide +kernel)
set_option maxRecDepth 20000 in
theorem gX9_sheet_X9_isSheet : GoodIn wsX9_sheet (va_wsS RX9 65 yX9_isSheet wsX9_isSheet) := goodIn_app (goodIn_of _ (by decide +kernel)) ggX9_sheet_X9_isSheet
set_option maxRecDepth 20000 in
theorem ggX9_sheet_X9_isLane : GoodIn wsX9_sheet wsX9_isLane := goodIn_r _ [12, 7, 8, 5, 9] rfl (by decide +kernel)
set_option maxRecDepth 20000 in
theorem gX9_sheet_X9_isLane : GoodIn wsX9_sheet (va_wsS RX9 69 yX9_isLane wsX9_isLane) := goodIn_app (goodIn_of _ (by decide +kernel)) ggX9_sheet_X9_isLane
set_option maxRecDepth 20000 in
theorem ggX9_sheet_X9_faulted : GoodIn wsX9_sheet wsX9_faulted := goodIn_r _ [16, 1, 25, 26, 27, 28, 29, 30, 31, 32, 33, 34, 35] rfl (by decide +kernel)
set_option maxRecDepth 20000 in
theorem gX9_sheet_X9_faulted : GoodIn wsX9_sheet (wsV RX9 75 RX9 yX9_faulted wsX9_faulted) := goodIn_app (goodIn_of _ (by decide +kernel)) ggX9_sheet_X9_faulted
set_option maxRecDepth 20000 in
theorem ggX9_sheet_X6_makeRow : GoodIn wsX9_sheet wsX6_makeRow := goodIn_r _ [21, 22, 23, 24, 36, 37, 38] rfl (by decide +kernel)
set_option maxRecDepth 20000 in
theorem gX9_sheet_X6_makeRow : GoodIn wsX9_sheet (wsV RX9 210 RX6 yX6_makeRow wsX6_makeRow) := goodIn_app (goodIn_of _ (by decide +kernel)) ggX9_sheet_X6_makeRow
theorem dX9_sheet_0 : decode cX9_sheet 0 = .ok (.aload_n 0, 1) := by decide +kernel
theorem dX9_sheet_1 : decode cX9_sheet 1 = .ok (.iconst 0, 1) := by decide +kernel
theorem dX9_sheet_2 : decode cX9_sheet 2 = .ok (.putfield 61, 3) := by decide +kernel
theorem dX9_sheet_5 : decode cX9_sheet 5 = .ok (.iload_n 1, 1) := by decide +kernel
theorem dX9_sheet_6 : decode cX9_sheet 6 = .ok (.invokestatic 65, 3) := by decide +kernel
theorem dX9_sheet_9 : decode cX9_sheet 9 = .ok (.ifCond .ne 5, 3) := by decide +kernel
theorem dX9_sheet_12 : decode cX9_sheet 12 = .ok (.iconst (-1), 1) := by decide +kernel
theorem dX9_sheet_13 : decode cX9_sheet 13 = .ok (.ireturn, 1) := by decide +kernel
theorem dX9_sheet_14 : decode cX9_sheet 14 = .ok (.iload_n 2, 1) := by decide +kernel
theorem dX9_sheet_15 : decode cX9_sheet 15 = .ok (.invokestatic 69, 3) := by decide +kernel
theorem dX9_sheet_18 : decode cX9_sheet 18 = .ok (.ifCond .eq 9, 3) := by decide +kernel
theorem dX9_sheet_21 : decode cX9_sheet 21 = .ok (.iload_n 3, 1) := by decide +kernel
theorem dX9_sheet_22 : decode cX9_sheet 22 = .ok (.bipush 60, 2) := by decide +kernel
theorem dX9_sheet_24 : decode cX9_sheet 24 = .ok (.if_icmp .le 6, 3) := by decide +kernel
theorem dX9_sheet_27 : decode cX9_sheet 27 = .ok (.bipush (-2), 2) := by decide +kernel
theorem dX9_sheet_29 : decode cX9_sheet 29 = .ok (.ireturn, 1) := by decide +kernel
theorem dX9_sheet_30 : decode cX9_sheet 30 = .ok (.iload_n 3, 1) := by decide +kernel
theorem dX9_sheet_31 : decode cX9_sheet 31 = .ok (.ifCond .ge 9, 3) := by decide +kernel
theorem dX9_sheet_34 : decode cX9_sheet 34 = .ok (.aload_n 0, 1) := by decide +kernel
theorem dX9_sheet_35 : decode cX9_sheet 35 = .ok (.iconst 4, 1) := by decide +kernel
theorem dX9_sheet_36 : decode cX9_sheet 36 = .ok (.invokevirtual 75, 3) := by decide +kernel
theorem dX9_sheet_39 : decode cX9_sheet 39 = .ok (.ireturn, 1) := by decide +kernel
theorem dX9_sheet_40 : decode cX9_sheet 40 = .ok (.aload_n 0, 1) := by decide +kernel
theorem dX9_sheet_41 : decode cX9_sheet 41 = .ok (.getfield 53, 3) := by decide +kernel
theorem dX9_sheet_44 : decode cX9_sheet 44 = .ok (.iload_n 1, 1) := by decide +kernel
theorem dX9_sheet_45 : decode cX9_sheet 45 = .ok (.aaload, 1) := by decide +kernel
theorem dX9_sheet_46 : decode cX9_sheet 46 = .ok (.iload_n 2, 1) := by decide +kernel
theorem dX9_sheet_47 : decode cX9_sheet 47 = .ok (.iload_n 3, 1) := by decide +kernel
theorem dX9_sheet_48 : decode cX9_sheet 48 = .ok (.invokevirtual 210, 3) := by decide +kernel
theorem dX9_sheet_51 : decode cX9_sheet 51 = .ok (.iconst 1, 1) := by decide +kernel
theorem dX9_sheet_52 : decode cX9_sheet 52 = .ok (.ireturn, 1) := by decide +kernel
set_option maxRecDepth 20000 in
theorem ggX9_lose_X9_isSheet : GoodIn wsX9_lose wsX9_isSheet := goodIn_r _ [5, 6, 7, 4, 8] rfl (by decide +kernel)
set_option maxRecDepth 20000 in
theorem gX9_lose_X9_isSheet : GoodIn wsX9_lose (va_wsS RX9 65 yX9_isSheet wsX9_isSheet) := goodIn_app (goodIn_of _ (by decide +kernel)) ggX9_lose_X9_isSheet
set_option maxRecDepth 20000 in
theorem ggX9_lose_X6_isNothing : GoodIn wsX9_lose wsX6_isNothing := goodIn_r _ [13, 14, 31, 32, 33] rfl (by decide +kernel)
set_option maxRecDepth 20000 in
theorem gX9_lose_X6_isNothing : GoodIn wsX9_lose (wsV RX9 79 RX6 yX6_isNothing wsX6_isNothing) := goodIn_app (goodIn_of _ (by decide +kernel)) ggX9_lose_X6_isNothing
set_option maxRecDepth 20000 in
theorem ggX9_lose_X6_makeNothing : GoodIn wsX9_lose wsX6_makeNothing := goodIn_r _ [18, 14, 19, 31, 32, 33] rfl (by decide +kernel)
set_option maxRecDepth 20000 in
theorem gX9_lose_X6_makeNothing : GoodIn wsX9_lose (wsV RX9 213 RX6 yX6_makeNothing wsX6_makeNothing) := goodIn_app (goodIn_of _ (by decide +kernel)) ggX9_lose_X6_makeNothing
theorem dX9_lose_0 : decode cX9_lose 0 = .ok (.iload_n 1, 1) := by decide +kernel
theorem dX9_lose_1 : decode cX9_lose 1 = .ok (.invokestatic 65, 3) := by decide +kernel
theorem dX9_lose_4 : decode cX9_lose 4 = .ok (.ifCond .ne 5, 3) := by decide +kernel
theorem dX9_lose_7 : decode cX9_lose 7 = .ok (.iconst (-1), 1) := by decide +kernel
theorem dX9_lose_8 : decode cX9_lose 8 = .ok (.ireturn, 1) := by decide +kernel
theorem dX9_lose_9 : decode cX9_lose 9 = .ok (.aload_n 0, 1) := by decide +kernel
theorem dX9_lose_10 : decode cX9_lose 10 = .ok (.getfield 53, 3) := by decide +kernel
theorem dX9_lose_13 : decode cX9_lose 13 = .ok (.iload_n 1, 1) := by decide +kernel
theorem dX9_lose_14 : decode cX9_lose 14 = .ok (.aaload, 1) := by decide +kernel
theorem dX9_lose_15 : decode cX9_lose 15 = .ok (.invokevirtual 79, 3) := by decide +kernel
theorem dX9_lose_18 : decode cX9_lose 18 = .ok (.ifCond .eq 5, 3) := by decide +kernel
theorem dX9_lose_21 : decode cX9_lose 21 = .ok (.iconst 0, 1) := by decide +kernel
theorem dX9_lose_22 : decode cX9_lose 22 = .ok (.ireturn, 1) := by decide +kernel
theorem dX9_lose_23 : decode cX9_lose 23 = .ok (.aload_n 0, 1) := by decide +kernel
theorem dX9_lose_24 : decode cX9_lose 24 = .ok (.getfield 53, 3) := by decide +kernel
theorem dX9_lose_27 : decode cX9_lose 27 = .ok (.iload_n 1, 1) := by decide +kernel
theorem dX9_lose_28 : decode cX9_lose 28 = .ok (.aaload, 1) := by decide +kernel
theorem dX9_lose_29 : decode cX9_lose 29 = .ok (.invokevirtual 213, 3) := by decide +kernel
theorem dX9_lose_32 : decode cX9_lose 32 = .ok (.iconst 1, 1) := by decide +kernel
theorem dX9_lose_33 : decode cX9_lose 33 = .ok (.ireturn, 1) := by decide +kernel
set_option maxRecDepth 20000 in
theorem ggX9_put_X9_isSheet : GoodIn wsX9_put wsX9_isSheet := goodIn_r _ [7, 8, 9, 6, 10] rfl (by decide +kernel)
set_option maxRecDepth 20000 in
theorem gX9_put_X9_isSheet : GoodIn wsX9_put (va_wsS RX9 65 yX9_isSheet wsX9_isSheet) := goodIn_app (goodIn_of _ (by decide +kernel)) ggX9_put_X9_isSheet
set_option maxRecDepth 20000 in
theorem ggX9_put_X6_isNothing : GoodIn wsX9_put wsX6_isNothing := goodIn_r _ [15, 16, 41, 42, 43] rfl (by decide +kernel)
set_option maxRecDepth 20000 in
theorem gX9_put_X6_isNothing : GoodIn wsX9_put (wsV RX9 79 RX6 yX6_isNothing wsX6_isNothing) := goodIn_app (goodIn_of _ (by decide +kernel)) ggX9_put_X6_isNothing
set_option maxRecDepth 20000 in
theorem ggX9_put_X9_faulted : GoodIn wsX9_put wsX9_faulted := goodIn_r _ [20, 1, 30, 31, 32, 33, 34, 35, 36, 37, 38, 39, 40] rfl (by decide +kernel)
set_option maxRecDepth 20000 in
theorem gX9_put_X9_faulted : GoodIn wsX9_put (wsV RX9 75 RX9 yX9_faulted wsX9_faulted) := goodIn_app (goodIn_of _ (by decide +kernel)) ggX9_put_X9_faulted
set_option maxRecDepth 20000 in
theorem ggX9_put_X6_hasCells : GoodIn wsX9_put wsX6_hasCells := goodIn_r _ [24, 25, 41, 42, 43] rfl (by decide +kernel)
set_option maxRecDepth 20000 in
theorem gX9_put_X6_hasCells : GoodIn wsX9_put (wsV RX9 83 RX6 yX6_hasCells wsX6_hasCells) := goodIn_app (goodIn_of _ (by decide +kernel)) ggX9_put_X6_hasCells
set_option maxRecDepth 20000 in
theorem ggX9_put_X6_cutToLane : GoodIn wsX9_put wsX6_cutToLane := goodIn_r _ [29, 16, 41, 42, 43] rfl (by decide +kernel)
set_option maxRecDepth 20000 in
theorem gX9_put_X6_cutToLane : GoodIn wsX9_put (wsV RX9 219 RX6 yX6_cutToLane wsX6_cutToLane) := goodIn_app (goodIn_of _ (by decide +kernel)) ggX9_put_X6_cutToLane
theorem dX9_put_0 : decode cX9_put 0 = .ok (.aload_n 0, 1) := by decide +kernel
theorem dX9_put_1 : decode cX9_put 1 = .ok (.iconst 0, 1) := by decide +kernel
theorem dX9_put_2 : decode cX9_put 2 = .ok (.putfield 61, 3) := by decide +kernel
theorem dX9_put_5 : decode cX9_put 5 = .ok (.iload_n 1, 1) := by decide +kernel
theorem dX9_put_6 : decode cX9_put 6 = .ok (.invokestatic 65, 3) := by decide +kernel
theorem dX9_put_9 : decode cX9_put 9 = .ok (.ifCond .ne 5, 3) := by decide +kernel
theorem dX9_put_12 : decode cX9_put 12 = .ok (.iconst (-1), 1) := by decide +kernel
theorem dX9_put_13 : decode cX9_put 13 = .ok (.ireturn, 1) := by decide +kernel
theorem dX9_put_14 : decode cX9_put 14 = .ok (.aload_n 0, 1) := by decide +kernel
theorem dX9_put_15 : decode cX9_put 15 = .ok (.getfield 53, 3) := by decide +kernel
theorem dX9_put_18 : decode cX9_put 18 = .ok (.iload_n 1, 1) := by decide +kernel
theorem dX9_put_19 : decode cX9_put 19 = .ok (.aaload, 1) := by decide +kernel
theorem dX9_put_20 : decode cX9_put 20 = .ok (.astore 4, 2) := by decide +kernel
theorem dX9_put_22 : decode cX9_put 22 = .ok (.aload 4, 2) := by decide +kernel
theorem dX9_put_24 : decode cX9_put 24 = .ok (.invokevirtual 79, 3) := by decide +kernel
theorem dX9_put_27 : decode cX9_put 27 = .ok (.ifCond .eq 9, 3) := by decide +kernel
theorem dX9_put_30 : decode cX9_put 30 = .ok (.aload_n 0, 1) := by decide +kernel
theorem dX9_put_31 : decode cX9_put 31 = .ok (.iconst 1, 1) := by decide +kernel
theorem dX9_put_32 : decode cX9_put 32 = .ok (.invokevirtual 75, 3) := by decide +kernel
theorem dX9_put_35 : decode cX9_put 35 = .ok (.ireturn, 1) := by decide +kernel
theorem dX9_put_36 : decode cX9_put 36 = .ok (.aload 4, 2) := by decide +kernel
theorem dX9_put_38 : decode cX9_put 38 = .ok (.iload_n 2, 1) := by decide +kernel
theorem dX9_put_39 : decode cX9_put 39 = .ok (.iconst 1, 1) := by decide +kernel
theorem dX9_put_40 : decode cX9_put 40 = .ok (.invokevirtual 83, 3) := by decide +kernel
theorem dX9_put_43 : decode cX9_put 43 = .ok (.ifCond .ne 9, 3) := by decide +kernel
theorem dX9_put_46 : decode cX9_put 46 = .ok (.aload_n 0, 1) := by decide +kernel
theorem dX9_put_47 : decode cX9_put 47 = .ok (.iconst 3, 1) := by decide +kernel
theorem dX9_put_48 : decode cX9_put 48 = .ok (.invokevirtual 75, 3) := by decide +kernel
theorem dX9_put_51 : decode cX9_put 51 = .ok (.ireturn, 1) := by decide +kernel
theorem dX9_put_52 : decode cX9_put 52 = .ok (.aload 4, 2) := by decide +kernel
theorem dX9_put_54 : decode cX9_put 54 = .ok (.getfield 216, 3) := by decide +kernel
theorem dX9_put_57 : decode cX9_put 57 = .ok (.iload_n 2, 1) := by decide +kernel
theorem dX9_put_58 : decode cX9_put 58 = .ok (.aload 4, 2) := by decide +kernel
theorem dX9_put_60 : decode cX9_put 60 = .ok (.iload_n 3, 1) := by decide +kernel
theorem dX9_put_61 : decode cX9_put 61 = .ok (.invokevirtual 219, 3) := by decide +kernel
theorem dX9_put_64 : decode cX9_put 64 = .ok (.iastore, 1) := by decide +kernel
theorem dX9_put_65 : decode cX9_put 65 = .ok (.iconst 1, 1) := by decide +kernel
theorem dX9_put_66 : decode cX9_put 66 = .ok (.ireturn, 1) := by decide +kernel
set_option maxRecDepth 20000 in
theorem ggX9_cell_X9_isSheet : GoodIn wsX9_cell wsX9_isSheet := goodIn_r _ [8, 9, 10, 7, 11] rfl (by decide +kernel)
set_option maxRecDepth 20000 in
theorem gX9_cell_X9_isSheet : GoodIn wsX9_cell (va_wsS RX9 65 yX9_isSheet wsX9_isSheet) := goodIn_app (goodIn_of _ (by decide +kernel)) ggX9_cell_X9_isSheet
set_option maxRecDepth 20000 in
theorem ggX9_cell_X9_isLane : GoodIn wsX9_cell wsX9_isLane := goodIn_r _ [14, 9, 10, 7, 11] rfl (by decide +kernel)
set_option maxRecDepth 20000 in
theorem gX9_cell_X9_isLane : GoodIn wsX9_cell (va_wsS RX9 69 yX9_isLane wsX9_isLane) := goodIn_app (goodIn_of _ (by decide +kernel)) ggX9_cell_X9_isLane
set_option maxRecDepth 20000 in
theorem ggX9_cell_X6_isOfAnotherLane : GoodIn wsX9_cell wsX6_isOfAnotherLane := goodIn_r _ [19, 20, 45, 46, 47] rfl (by decide +kernel)
set_option maxRecDepth 20000 in
theorem gX9_cell_X6_isOfAnotherLane : GoodIn wsX9_cell (wsV RX9 72 RX6 yX6_isOfAnotherLane wsX6_isOfAnotherLane) := goodIn_app (goodIn_of _ (by decide +kernel)) ggX9_cell_X6_isOfAnotherLane
set_option maxRecDepth 20000 in
theorem ggX9_cell_X9_lostTo : GoodIn wsX9_cell wsX9_lostTo := goodIn_r _ [24, 1, 2, 34, 35, 36, 37, 38, 39, 40, 41, 42, 43, 44] rfl (by decide +kernel)
set_option maxRecDepth 20000 in
theorem gX9_cell_X9_lostTo : GoodIn wsX9_cell (wsV RX9 222 RX9 yX9_lostTo wsX9_lostTo) := goodIn_app (goodIn_of _ (by decide +kernel)) ggX9_cell_X9_lostTo
set_option maxRecDepth 20000 in
theorem ggX9_cell_X6_isNothing : GoodIn wsX9_cell wsX6_isNothing := goodIn_r _ [28, 20, 45, 46, 47] rfl (by decide +kernel)
set_option maxRecDepth 20000 in
theorem gX9_cell_X6_isNothing : GoodIn wsX9_cell (wsV RX9 79 RX6 yX6_isNothing wsX6_isNothing) := goodIn_app (goodIn_of _ (by decide +kernel)) ggX9_cell_X6_isNothing
set_option maxRecDepth 20000 in
theorem ggX9_cell_X6_hasCells : GoodIn wsX9_cell wsX6_hasCells := goodIn_r _ [32, 33, 45, 46, 47] rfl (by decide +kernel)
set_option maxRecDepth 20000 in
theorem gX9_cell_X6_hasCells : GoodIn wsX9_cell (wsV RX9 83 RX6 yX6_hasCells wsX6_hasCells) := goodIn_app (goodIn_of _ (by decide +kernel)) ggX9_cell_X6_hasCells
theorem dX9_cell_0 : decode cX9_cell 0 = .ok (.aload_n 0, 1) := by decide +kernel
theorem dX9_cell_1 : decode cX9_cell 1 = .ok (.iconst 0, 1) := by decide +kernel
theorem dX9_cell_2 : decode cX9_cell 2 = .ok (.putfield 61, 3) := by decide +kernel
theorem dX9_cell_5 : decode cX9_cell 5 = .ok (.iload_n 1, 1) := by decide +kernel
theorem dX9_cell_6 : decode cX9_cell 6 = .ok (.invokestatic 65, 3) := by decide +kernel
theorem dX9_cell_9 : decode cX9_cell 9 = .ok (.ifCond .eq 10, 3) := by decide +kernel
theorem dX9_cell_12 : decode cX9_cell 12 = .ok (.iload_n 3, 1) := by decide +kernel
theorem dX9_cell_13 : decode cX9_cell 13 = .ok (.invokestatic 69, 3) := by decide +kernel
theorem dX9_cell_16 : decode cX9_cell 16 = .ok (.ifCond .ne 7, 3) := by decide +kernel
theorem dX9_cell_19 : decode cX9_cell 19 = .ok (.ldc2_w 204, 3) := by decide +kernel
theorem dX9_cell_22 : decode cX9_cell 22 = .ok (.lreturn, 1) := by decide +kernel
theorem dX9_cell_23 : decode cX9_cell 23 = .ok (.aload_n 0, 1) := by decide +kernel
theorem dX9_cell_24 : decode cX9_cell 24 = .ok (.getfield 53, 3) := by decide +kernel
theorem dX9_cell_27 : decode cX9_cell 27 = .ok (.iload_n 1, 1) := by decide +kernel
theorem dX9_cell_28 : decode cX9_cell 28 = .ok (.aaload, 1) := by decide +kernel
theorem dX9_cell_29 : decode cX9_cell 29 = .ok (.astore 4, 2) := by decide +kernel
theorem dX9_cell_31 : decode cX9_cell 31 = .ok (.aload 4, 2) := by decide +kernel
theorem dX9_cell_33 : decode cX9_cell 33 = .ok (.iload_n 3, 1) := by decide +kernel
theorem dX9_cell_34 : decode cX9_cell 34 = .ok (.invokevirtual 72, 3) := by decide +kernel
theorem dX9_cell_37 : decode cX9_cell 37 = .ok (.ifCond .eq 9, 3) := by decide +kernel
theorem dX9_cell_40 : decode cX9_cell 40 = .ok (.aload_n 0, 1) := by decide +kernel
theorem dX9_cell_41 : decode cX9_cell 41 = .ok (.iconst 2, 1) := by decide +kernel
theorem dX9_cell_42 : decode cX9_cell 42 = .ok (.invokevirtual 222, 3) := by decide +kernel
theorem dX9_cell_45 : decode cX9_cell 45 = .ok (.lreturn, 1) := by decide +kernel
theorem dX9_cell_46 : decode cX9_cell 46 = .ok (.aload 4, 2) := by decide +kernel
theorem dX9_cell_48 : decode cX9_cell 48 = .ok (.invokevirtual 79, 3) := by decide +kernel
theorem dX9_cell_51 : decode cX9_cell 51 = .ok (.ifCond .eq 9, 3) := by decide +kernel
theorem dX9_cell_54 : decode cX9_cell 54 = .ok (.aload_n 0, 1) := by decide +kernel
theorem dX9_cell_55 : decode cX9_cell 55 = .ok (.iconst 1, 1) := by decide +kernel
theorem dX9_cell_56 : decode cX9_cell 56 = .ok (.invokevirtual 222, 3) := by decide +kernel
theorem dX9_cell_59 : decode cX9_cell 59 = .ok (.lreturn, 1) := by decide +kernel
theorem dX9_cell_60 : decode cX9_cell 60 = .ok (.aload 4, 2) := by decide +kernel
theorem dX9_cell_62 : decode cX9_cell 62 = .ok (.iload_n 2, 1) := by decide +kernel
theorem dX9_cell_63 : decode cX9_cell 63 = .ok (.iconst 1, 1) := by decide +kernel
theorem dX9_cell_64 : decode cX9_cell 64 = .ok (.invokevirtual 83, 3) := by decide +kernel
theorem dX9_cell_67 : decode cX9_cell 67 = .ok (.ifCond .ne 9, 3) := by decide +kernel
theorem dX9_cell_70 : decode cX9_cell 70 = .ok (.aload_n 0, 1) := by decide +kernel
theorem dX9_cell_71 : decode cX9_cell 71 = .ok (.iconst 3, 1) := by decide +kernel
theorem dX9_cell_72 : decode cX9_cell 72 = .ok (.invokevirtual 222, 3) := by decide +kernel
theorem dX9_cell_75 : decode cX9_cell 75 = .ok (.lreturn, 1) := by decide +kernel
theorem dX9_cell_76 : decode cX9_cell 76 = .ok (.aload 4, 2) := by decide +kernel
theorem dX9_cell_78 : decode cX9_cell 78 = .ok (.getfield 216, 3) := by decide +kernel
theorem dX9_cell_81 : decode cX9_cell 81 = .ok (.iload_n 2, 1) := by decide +kernel
theorem dX9_cell_82 : decode cX9_cell 82 = .ok (.iaload, 1) := by decide +kernel
theorem dX9_cell_83 : decode cX9_cell 83 = .ok (.i2l, 1) := by decide +kernel
theorem dX9_cell_84 : decode cX9_cell 84 = .ok (.lreturn, 1) := by decide +kernel
set_option maxRecDepth 20000 in
theorem ggX9_copy_X9_isSheet : GoodIn wsX9_copy wsX9_isSheet := goodIn_r _ [12, 13, 14, 11, 15] rfl (by decide +kernel)
set_option maxRecDepth 20000 in
theorem gX9_copy_X9_isSheet : GoodIn wsX9_copy (va_wsS RX9 65 yX9_isSheet wsX9_isSheet) := goodIn_app (goodIn_of _ (by decide +kernel)) ggX9_copy_X9_isSheet
set_option maxRecDepth 20000 in
theorem ggX9_copy_X6_isNothing : GoodIn wsX9_copy wsX6_isNothing := goodIn_r _ [20, 21, 46, 47, 48] rfl (by decide +kernel)
set_option maxRecDepth 20000 in
theorem gX9_copy_X6_isNothing : GoodIn wsX9_copy (wsV RX9 79 RX6 yX6_isNothing wsX6_isNothing) := goodIn_app (goodIn_of _ (by decide +kernel)) ggX9_copy_X6_isNothing
set_option maxRecDepth 20000 in
theorem ggX9_copy_X9_faulted : GoodIn wsX9_copy wsX9_faulted := goodIn_r _ [25, 1, 35, 36, 37, 38, 39, 40, 41, 42, 43, 44, 45] rfl (by decide +kernel)
set_option maxRecDepth 20000 in
theorem gX9_copy_X9_faulted : GoodIn wsX9_copy (wsV RX9 75 RX9 yX9_faulted wsX9_faulted) := goodIn_app (goodIn_of _ (by decide +kernel)) ggX9_copy_X9_faulted
set_option maxRecDepth 20000 in
theorem ggX9_copy_X6_isOfAnotherLane : GoodIn wsX9_copy wsX6_isOfAnotherLane := goodIn_r _ [29, 21, 46, 47, 48] rfl (by decide +kernel)
set_option maxRecDepth 20000 in
theorem gX9_copy_X6_isOfAnotherLane : GoodIn wsX9_copy (wsV RX9 72 RX6 yX6_isOfAnotherLane wsX6_isOfAnotherLane) := goodIn_app (goodIn_of _ (by decide +kernel)) ggX9_copy_X6_isOfAnotherLane
set_option maxRecDepth 20000 in
theorem ggX9_copy_X6_hasCells : GoodIn wsX9_copy wsX6_hasCells := goodIn_r _ [33, 34, 46, 47, 48] rfl (by decide +kernel)
set_option maxRecDepth 20000 in
theorem gX9_copy_X6_hasCells : GoodIn wsX9_copy (wsV RX9 83 RX6 yX6_hasCells wsX6_hasCells) := goodIn_app (goodIn_of _ (by decide +kernel)) ggX9_copy_X6_hasCells
theorem dX9_copy_0 : decode cX9_copy 0 = .ok (.aload_n 0, 1) := by decide +kernel
theorem dX9_copy_1 : decode cX9_copy 1 = .ok (.iconst 0, 1) := by decide +kernel
theorem dX9_copy_2 : decode cX9_copy 2 = .ok (.putfield 61, 3) := by decide +kernel
theorem dX9_copy_5 : decode cX9_copy 5 = .ok (.iload_n 1, 1) := by decide +kernel
theorem dX9_copy_6 : decode cX9_copy 6 = .ok (.invokestatic 65, 3) := by decide +kernel
theorem dX9_copy_9 : decode cX9_copy 9 = .ok (.ifCond .eq 10, 3) := by decide +kernel
theorem dX9_copy_12 : decode cX9_copy 12 = .ok (.iload_n 3, 1) := by decide +kernel
theorem dX9_copy_13 : decode cX9_copy 13 = .ok (.invokestatic 65, 3) := by decide +kernel
theorem dX9_copy_16 : decode cX9_copy 16 = .ok (.ifCond .ne 5, 3) := by decide +kernel
theorem dX9_copy_19 : decode cX9_copy 19 = .ok (.iconst (-1), 1) := by decide +kernel
theorem dX9_copy_20 : decode cX9_copy 20 = .ok (.ireturn, 1) := by decide +kernel
theorem dX9_copy_21 : decode cX9_copy 21 = .ok (.aload_n 0, 1) := by decide +kernel
theorem dX9_copy_22 : decode cX9_copy 22 = .ok (.getfield 53, 3) := by decide +kernel
theorem dX9_copy_25 : decode cX9_copy 25 = .ok (.iload_n 1, 1) := by decide +kernel
theorem dX9_copy_26 : decode cX9_copy 26 = .ok (.aaload, 1) := by decide +kernel
theorem dX9_copy_27 : decode cX9_copy 27 = .ok (.astore 6, 2) := by decide +kernel
theorem dX9_copy_29 : decode cX9_copy 29 = .ok (.aload_n 0, 1) := by decide +kernel
theorem dX9_copy_30 : decode cX9_copy 30 = .ok (.getfield 53, 3) := by decide +kernel
theorem dX9_copy_33 : decode cX9_copy 33 = .ok (.iload_n 3, 1) := by decide +kernel
theorem dX9_copy_34 : decode cX9_copy 34 = .ok (.aaload, 1) := by decide +kernel
theorem dX9_copy_35 : decode cX9_copy 35 = .ok (.astore 7, 2) := by decide +kernel
theorem dX9_copy_37 : decode cX9_copy 37 = .ok (.aload 6, 2) := by decide +kernel
theorem dX9_copy_39 : decode cX9_copy 39 = .ok (.invokevirtual 79, 3) := by decide +kernel
theorem dX9_copy_42 : decode cX9_copy 42 = .ok (.ifCond .ne 11, 3) := by decide +kernel
theorem dX9_copy_45 : decode cX9_copy 45 = .ok (.aload 7, 2) := by decide +kernel
theorem dX9_copy_47 : decode cX9_copy 47 = .ok (.invokevirtual 79, 3) := by decide +kernel
theorem dX9_copy_50 : decode cX9_copy 50 = .ok (.ifCond .eq 9, 3) := by decide +kernel
theorem dX9_copy_53 : decode cX9_copy 53 = .ok (.aload_n 0, 1) := by decide +kernel
theorem dX9_copy_54 : decode cX9_copy 54 = .ok (.iconst 1, 1) := by decide +kernel
theorem dX9_copy_55 : decode cX9_copy 55 = .ok (.invokevirtual 75, 3) := by decide +kernel
theorem dX9_copy_58 : decode cX9_copy 58 = .ok (.ireturn, 1) := by decide +kernel
theorem dX9_copy_59 : decode cX9_copy 59 = .ok (.aload 6, 2) := by decide +kernel
theorem dX9_copy_61 : decode cX9_copy 61 = .ok (.aload 7, 2) := by decide +kernel
theorem dX9_copy_63 : decode cX9_copy 63 = .ok (.getfield 226, 3) := by decide +kernel
theorem dX9_copy_66 : decode cX9_copy 66 = .ok (.invokevirtual 72, 3) := by decide +kernel
theorem dX9_copy_69 : decode cX9_copy 69 = .ok (.ifCond .eq 9, 3) := by decide +kernel
theorem dX9_copy_72 : decode cX9_copy 72 = .ok (.aload_n 0, 1) := by decide +kernel
theorem dX9_copy_73 : decode cX9_copy 73 = .ok (.iconst 2, 1) := by decide +kernel
theorem dX9_copy_74 : decode cX9_copy 74 = .ok (.invokevirtual 75, 3) := by decide +kernel
theorem dX9_copy_77 : decode cX9_copy 77 = .ok (.ireturn, 1) := by decide +kernel
theorem dX9_copy_78 : decode cX9_copy 78 = .ok (.aload 6, 2) := by decide +kernel
theorem dX9_copy_80 : decode cX9_copy 80 = .ok (.iload_n 2, 1) := by decide +kernel
theorem dX9_copy_81 : decode cX9_copy 81 = .ok (.iload 5, 2) := by decide +kernel
theorem dX9_copy_83 : decode cX9_copy 83 = .ok (.invokevirtual 83, 3) := by decide +kernel
theorem dX9_copy_86 : decode cX9_copy 86 = .ok (.ifCond .eq 15, 3) := by decide +kernel
theorem dX9_copy_89 : decode cX9_copy 89 = .ok (.aload 7, 2) := by decide +kernel
theorem dX9_copy_91 : decode cX9_copy 91 = .ok (.iload 4, 2) := by decide +kernel
theorem dX9_copy_93 : decode cX9_copy 93 = .ok (.iload 5, 2) := by decide +kernel
theorem dX9_copy_95 : decode cX9_copy 95 = .ok (.invokevirtual 83, 3) := by decide +kernel
theorem dX9_copy_98 : decode cX9_copy 98 = .ok (.ifCond .ne 9, 3) := by decide +kernel
theorem dX9_copy_101 : decode cX9_copy 101 = .ok (.aload_n 0, 1) := by decide +kernel
theorem dX9_copy_102 : decode cX9_copy 102 = .ok (.iconst 3, 1) := by decide +kernel
theorem dX9_copy_103 : decode cX9_copy 103 = .ok (.invokevirtual 75, 3) := by decide +kernel
theorem dX9_copy_106 : decode cX9_copy 106 = .ok (.ireturn, 1) := by decide +kernel
theorem dX9_copy_107 : decode cX9_copy 107 = .ok (.aload 6, 2) := by decide +kernel
theorem dX9_copy_109 : decode cX9_copy 109 = .ok (.getfield 216, 3) := by decide +kernel
theorem dX9_copy_112 : decode cX9_copy 112 = .ok (.iload_n 2, 1) := by decide +kernel
theorem dX9_copy_113 : decode cX9_copy 113 = .ok (.aload 7, 2) := by decide +kernel
theorem dX9_copy_115 : decode cX9_copy 115 = .ok (.getfield 216, 3) := by decide +kernel
theorem dX9_copy_118 : decode cX9_copy 118 = .ok (.iload 4, 2) := by decide +kernel
theorem dX9_copy_120 : decode cX9_copy 120 = .ok (.iload 5, 2) := by decide +kernel
theorem dX9_copy_122 : decode cX9_copy 122 = .ok (.invokestatic 229, 3) := by decide +kernel
theorem dX9_copy_125 : decode cX9_copy 125 = .ok (.iload 5, 2) := by decide +kernel
theorem dX9_copy_127 : decode cX9_copy 127 = .ok (.ireturn, 1) := by decide +kernel
set_option maxRecDepth 20000 in
theorem ggX9_tell_X2_hasLamp : GoodIn wsX9_tell wsX2_hasLamp := goodIn_r _ [7, 8, 39, 40, 41, 42, 43, 44, 45, 46] rfl (by decide +kernel)
set_option maxRecDepth 20000 in
theorem gX9_tell_X2_hasLamp : GoodIn wsX9_tell (wsV RX9 126 RX2 yX2_hasLamp wsX2_hasLamp) := goodIn_app (goodIn_of _ (by decide +kernel)) ggX9_tell_X2_hasLamp
set_option maxRecDepth 20000 in
theorem ggX9_tell_X9_tellAsFeast : GoodIn wsX9_tell wsX9_tellAsFeast := goodIn_r _ [13, 14, 15, 16, 12, 17, 18, 19, 20, 21, 22, 23, 24, 25, 26, 1, 27, 28, 29, 30, 31, 32, 33, 34, 35, 36, 37, 38, 39, 40, 41, 42, 43, 44, 45, 46] rfl (by decide +kernel)
set_option maxRecDepth 20000 in
theorem gX9_tell_X9_tellAsFeast : GoodIn wsX9_tell (wsV RX9 235 RX9 yX9_tellAsFeast wsX9_tellAsFeast) := goodIn_app (goodIn_of _ (by decide +kernel)) ggX9_tell_X9_tellAsFeast
set_option maxRecDepth 20000 in
theorem ggX9_tell_X9_tellAsMirrored : GoodIn wsX9_tell wsX9_tellAsMirrored := goodIn_r _ [22, 14, 15, 16, 12, 17, 18, 23, 24, 25, 26, 1, 27, 28, 29, 30, 31, 32, 33, 34, 35, 36, 37, 38, 39, 40, 41, 42, 43, 44, 45, 46] rfl (by decide +kernel)
set_option maxRecDepth 20000 in
theorem gX9_tell_X9_tellAsMirrored : GoodIn wsX9_tell (wsV RX9 238 RX9 yX9_tellAsMirrored wsX9_tellAsMirrored) := goodIn_app (goodIn_of _ (by decide +kernel)) ggX9_tell_X9_tellAsMirrored
set_option maxRecDepth 20000 in
theorem ggX9_tell_X9_tellAsLamp : GoodIn wsX9_tell wsX9_tellAsLamp := goodIn_r _ [26, 1, 27, 14, 15, 16, 12, 17, 18, 28, 29, 30, 31, 32, 33, 34, 35, 36, 37, 38, 39, 40, 41, 42, 43, 44, 45, 46] rfl (by decide +kernel)
set_option maxRecDepth 20000 in
theorem gX9_tell_X9_tellAsLamp : GoodIn wsX9_tell (wsV RX9 241 RX9 yX9_tellAsLamp wsX9_tellAsLamp) := goodIn_app (goodIn_of _ (by decide +kernel)) ggX9_tell_X9_tellAsLamp
theorem dX9_tell_0 : decode cX9_tell 0 = .ok (.aload_n 0, 1) := by decide +kernel
theorem dX9_tell_1 : decode cX9_tell 1 = .ok (.getfield 14, 3) := by decide +kernel
theorem dX9_tell_4 : decode cX9_tell 4 = .ok (.iload_n 1, 1) := by decide +kernel
theorem dX9_tell_5 : decode cX9_tell 5 = .ok (.invokevirtual 126, 3) := by decide +kernel
theorem dX9_tell_8 : decode cX9_tell 8 = .ok (.ifCond .ne 5, 3) := by decide +kernel
theorem dX9_tell_11 : decode cX9_tell 11 = .ok (.iconst (-1), 1) := by decide +kernel
theorem dX9_tell_12 : decode cX9_tell 12 = .ok (.ireturn, 1) := by decide +kernel
theorem dX9_tell_13 : decode cX9_tell 13 = .ok (.aload_n 0, 1) := by decide +kernel
theorem dX9_tell_14 : decode cX9_tell 14 = .ok (.getfield 14, 3) := by decide +kernel
theorem dX9_tell_17 : decode cX9_tell 17 = .ok (.getfield 129, 3) := by decide +kernel
theorem dX9_tell_20 : decode cX9_tell 20 = .ok (.iload_n 1, 1) := by decide +kernel
theorem dX9_tell_21 : decode cX9_tell 21 = .ok (.iaload, 1) := by decide +kernel
theorem dX9_tell_22 : decode cX9_tell 22 = .ok (.istore_n 2, 1) := by decide +kernel
theorem dX9_tell_23 : decode cX9_tell 23 = .ok (.iload_n 2, 1) := by decide +kernel
theorem dX9_tell_24 : decode cX9_tell 24 = .ok (.iconst 2, 1) := by decide +kernel
theorem dX9_tell_25 : decode cX9_tell 25 = .ok (.if_icmp .ne 9, 3) := by decide +kernel
theorem dX9_tell_28 : decode cX9_tell 28 = .ok (.aload_n 0, 1) := by decide +kernel
theorem dX9_tell_29 : decode cX9_tell 29 = .ok (.iload_n 1, 1) := by decide +kernel
theorem dX9_tell_30 : decode cX9_tell 30 = .ok (.invokevirtual 235, 3) := by decide +kernel
theorem dX9_tell_33 : decode cX9_tell 33 = .ok (.ireturn, 1) := by decide +kernel
theorem dX9_tell_34 : decode cX9_tell 34 = .ok (.iload_n 2, 1) := by decide +kernel
theorem dX9_tell_35 : decode cX9_tell 35 = .ok (.iconst 1, 1) := by decide +kernel
theorem dX9_tell_36 : decode cX9_tell 36 = .ok (.if_icmp .ne 11, 3) := by decide +kernel
theorem dX9_tell_39 : decode cX9_tell 39 = .ok (.aload_n 0, 1) := by decide +kernel
theorem dX9_tell_40 : decode cX9_tell 40 = .ok (.iload_n 1, 1) := by decide +kernel
theorem dX9_tell_41 : decode cX9_tell 41 = .ok (.invokevirtual 238, 3) := by decide +kernel
theorem dX9_tell_44 : decode cX9_tell 44 = .ok (.goto 8, 3) := by decide +kernel
theorem dX9_tell_47 : decode cX9_tell 47 = .ok (.aload_n 0, 1) := by decide +kernel
theorem dX9_tell_48 : decode cX9_tell 48 = .ok (.iload_n 1, 1) := by decide +kernel
theorem dX9_tell_49 : decode cX9_tell 49 = .ok (.invokevirtual 241, 3) := by decide +kernel
theorem dX9_tell_52 : decode cX9_tell 52 = .ok (.ireturn, 1) := by decide +kernel
set_option maxRecDepth 20000 in
theorem ggX9_see_X2_hasLamp : GoodIn wsX9_see wsX2_hasLamp := goodIn_r _ [7, 8, 34, 35, 36, 37, 38, 39, 40, 41] rfl (by decide +kernel)
set_option maxRecDepth 20000 in
theorem gX9_see_X2_hasLamp : GoodIn wsX9_see (wsV RX9 126 RX2 yX2_hasLamp wsX2_hasLamp) := goodIn_app (goodIn_of _ (by decide +kernel)) ggX9_see_X2_hasLamp
set_option maxRecDepth 20000 in
theorem ggX9_see_X9_seeAsFeast : GoodIn wsX9_see wsX9_seeAsFeast := goodIn_r _ [13, 14, 15, 16, 12, 17, 18, 23, 24, 25, 26, 27, 28, 29, 30, 31, 32, 33] rfl (by decide +kernel)
set_option maxRecDepth 20000 in
theorem gX9_see_X9_seeAsFeast : GoodIn wsX9_see (wsV RX9 244 RX9 yX9_seeAsFeast wsX9_seeAsFeast) := goodIn_app (goodIn_of _ (by decide +kernel)) ggX9_see_X9_seeAsFeast
set_option maxRecDepth 20000 in
theorem ggX9_see_X9_seeAsLent : GoodIn wsX9_see wsX9_seeAsLent := goodIn_r _ [22, 14, 15, 16, 12, 17, 18, 23, 24, 25, 26, 27, 28, 29, 30, 31, 32, 33] rfl (by decide +kernel)
set_option maxRecDepth 20000 in
theorem gX9_see_X9_seeAsLent : GoodIn wsX9_see (wsV RX9 248 RX9 yX9_seeAsLent wsX9_seeAsLent) := goodIn_app (goodIn_of _ (by decide +kernel)) ggX9_see_X9_seeAsLent
theorem dX9_see_0 : decode cX9_see 0 = .ok (.aload_n 0, 1) := by decide +kernel
theorem dX9_see_1 : decode cX9_see 1 = .ok (.getfield 14, 3) := by decide +kernel
theorem dX9_see_4 : decode cX9_see 4 = .ok (.iload_n 1, 1) := by decide +kernel
theorem dX9_see_5 : decode cX9_see 5 = .ok (.invokevirtual 126, 3) := by decide +kernel
theorem dX9_see_8 : decode cX9_see 8 = .ok (.ifCond .ne 5, 3) := by decide +kernel
theorem dX9_see_11 : decode cX9_see 11 = .ok (.iconst (-1), 1) := by decide +kernel
theorem dX9_see_12 : decode cX9_see 12 = .ok (.ireturn, 1) := by decide +kernel
theorem dX9_see_13 : decode cX9_see 13 = .ok (.aload_n 0, 1) := by decide +kernel
theorem dX9_see_14 : decode cX9_see 14 = .ok (.getfield 14, 3) := by decide +kernel
theorem dX9_see_17 : decode cX9_see 17 = .ok (.getfield 129, 3) := by decide +kernel
theorem dX9_see_20 : decode cX9_see 20 = .ok (.iload_n 1, 1) := by decide +kernel
theorem dX9_see_21 : decode cX9_see 21 = .ok (.iaload, 1) := by decide +kernel
theorem dX9_see_22 : decode cX9_see 22 = .ok (.iconst 2, 1) := by decide +kernel
theorem dX9_see_23 : decode cX9_see 23 = .ok (.if_icmp .ne 10, 3) := by decide +kernel
theorem dX9_see_26 : decode cX9_see 26 = .ok (.aload_n 0, 1) := by decide +kernel
theorem dX9_see_27 : decode cX9_see 27 = .ok (.invokevirtual 244, 3) := by decide +kernel
theorem dX9_see_30 : decode cX9_see 30 = .ok (.goto 8, 3) := by decide +kernel
theorem dX9_see_33 : decode cX9_see 33 = .ok (.aload_n 0, 1) := by decide +kernel
theorem dX9_see_34 : decode cX9_see 34 = .ok (.iload_n 1, 1) := by decide +kernel
theorem dX9_see_35 : decode cX9_see 35 = .ok (.invokevirtual 248, 3) := by decide +kernel
theorem dX9_see_38 : decode cX9_see 38 = .ok (.ireturn, 1) := by decide +kernel
set_option maxRecDepth 20000 in
theorem ggX9_as_X2_hasLamp : GoodIn wsX9_as wsX2_hasLamp := goodIn_r _ [8, 9, 29, 30, 31, 32, 33, 34, 35, 36] rfl (by decide +kernel)
set_option maxRecDepth 20000 in
theorem gX9_as_X2_hasLamp : GoodIn wsX9_as (wsV RX9 126 RX2 yX2_hasLamp wsX2_hasLamp) := goodIn_app (goodIn_of _ (by decide +kernel)) ggX9_as_X2_hasLamp
set_option maxRecDepth 20000 in
theorem ggX9_as_X9_isWithin : GoodIn wsX9_as wsX9_isWithin := goodIn_r _ [13] rfl (by decide +kernel)
set_option maxRecDepth 20000 in
theorem gX9_as_X9_isWithin : GoodIn wsX9_as (va_wsS RX9 109 yX9_isWithin wsX9_isWithin) := goodIn_app (goodIn_of _ (by decide +kernel)) ggX9_as_X9_isWithin
set_option maxRecDepth 20000 in
theorem ggX9_as_X9_faulted : GoodIn wsX9_as wsX9_faulted := goodIn_r _ [17, 1, 18, 19, 20, 21, 22, 23, 24, 25, 26, 27, 28] rfl (by decide +kernel)
set_option maxRecDepth 20000 in
theorem gX9_as_X9_faulted : GoodIn wsX9_as (wsV RX9 75 RX9 yX9_faulted wsX9_faulted) := goodIn_app (goodIn_of _ (by decide +kernel)) ggX9_as_X9_faulted
theorem dX9_as_0 : decode cX9_as 0 = .ok (.aload_n 0, 1) := by decide +kernel
theorem dX9_as_1 : decode cX9_as 1 = .ok (.iconst 0, 1) := by decide +kernel
theorem dX9_as_2 : decode cX9_as 2 = .ok (.putfield 61, 3) := by decide +kernel
theorem dX9_as_5 : decode cX9_as 5 = .ok (.aload_n 0, 1) := by decide +kernel
theorem dX9_as_6 : decode cX9_as 6 = .ok (.getfield 14, 3) := by decide +kernel
theorem dX9_as_9 : decode cX9_as 9 = .ok (.iload_n 1, 1) := by decide +kernel
theorem dX9_as_10 : decode cX9_as 10 = .ok (.invokevirtual 126, 3) := by decide +kernel
theorem dX9_as_13 : decode cX9_as 13 = .ok (.ifCond .ne 5, 3) := by decide +kernel
theorem dX9_as_16 : decode cX9_as 16 = .ok (.iconst (-1), 1) := by decide +kernel
theorem dX9_as_17 : decode cX9_as 17 = .ok (.ireturn, 1) := by decide +kernel
theorem dX9_as_18 : decode cX9_as 18 = .ok (.iload_n 2, 1) := by decide +kernel
theorem dX9_as_19 : decode cX9_as 19 = .ok (.iconst 0, 1) := by decide +kernel
theorem dX9_as_20 : decode cX9_as 20 = .ok (.iconst 2, 1) := by decide +kernel
theorem dX9_as_21 : decode cX9_as 21 = .ok (.invokestatic 109, 3) := by decide +kernel
theorem dX9_as_24 : decode cX9_as 24 = .ok (.ifCond .ne 6, 3) := by decide +kernel
theorem dX9_as_27 : decode cX9_as 27 = .ok (.bipush (-2), 2) := by decide +kernel
theorem dX9_as_29 : decode cX9_as 29 = .ok (.ireturn, 1) := by decide +kernel
theorem dX9_as_30 : decode cX9_as 30 = .ok (.iload_n 2, 1) := by decide +kernel
theorem dX9_as_31 : decode cX9_as 31 = .ok (.aload_n 0, 1) := by decide +kernel
theorem dX9_as_32 : decode cX9_as 32 = .ok (.getfield 14, 3) := by decide +kernel
theorem dX9_as_35 : decode cX9_as 35 = .ok (.getfield 129, 3) := by decide +kernel
theorem dX9_as_38 : decode cX9_as 38 = .ok (.iload_n 1, 1) := by decide +kernel
theorem dX9_as_39 : decode cX9_as 39 = .ok (.iaload, 1) := by decide +kernel
theorem dX9_as_40 : decode cX9_as 40 = .ok (.if_icmp .le 9, 3) := by decide +kernel
theorem dX9_as_43 : decode cX9_as 43 = .ok (.aload_n 0, 1) := by decide +kernel
theorem dX9_as_44 : decode cX9_as 44 = .ok (.iconst 2, 1) := by decide +kernel
theorem dX9_as_45 : decode cX9_as 45 = .ok (.invokevirtual 75, 3) := by decide +kernel
theorem dX9_as_48 : decode cX9_as 48 = .ok (.ireturn, 1) := by decide +kernel
theorem dX9_as_49 : decode cX9_as 49 = .ok (.iconst 1, 1) := by decide +kernel
theorem dX9_as_50 : decode cX9_as 50 = .ok (.ireturn, 1) := by decide +kernel
theorem dX9_trace_0 : decode cX9_trace 0 = .ok (.aload_n 0, 1) := by decide +kernel
theorem dX9_trace_1 : decode cX9_trace 1 = .ok (.getfield 57, 3) := by decide +kernel
theorem dX9_trace_4 : decode cX9_trace 4 = .ok (.ireturn, 1) := by decide +kernel
theorem dX9_fault_0 : decode cX9_fault 0 = .ok (.aload_n 0, 1) := by decide +kernel
theorem dX9_fault_1 : decode cX9_fault 1 = .ok (.getfield 61, 3) := by decide +kernel
theorem dX9_fault_4 : decode cX9_fault 4 = .ok (.ireturn, 1) := by decide +kernel
theorem dX9_many_0 : decode cX9_many 0 = .ok (.iload_n 1, 1) := by decide +kernel
theorem dX9_many_1 : decode cX9_many 1 = .ok (.tableswitch 75 0 4 #[35, 43, 51, 59, 67], 35) := by decide +kernel
theorem dX9_many_36 : decode cX9_many 36 = .ok (.aload_n 0, 1) := by decide +kernel
theorem dX9_many_37 : decode cX9_many 37 = .ok (.getfield 14, 3) := by decide +kernel
theorem dX9_many_40 : decode cX9_many 40 = .ok (.getfield 106, 3) := by decide +kernel
theorem dX9_many_43 : decode cX9_many 43 = .ok (.ireturn, 1) := by decide +kernel
theorem dX9_many_44 : decode cX9_many 44 = .ok (.aload_n 0, 1) := by decide +kernel
theorem dX9_many_45 : decode cX9_many 45 = .ok (.getfield 14, 3) := by decide +kernel
theorem dX9_many_48 : decode cX9_many 48 = .ok (.getfield 195, 3) := by decide +kernel
theorem dX9_many_51 : decode cX9_many 51 = .ok (.ireturn, 1) := by decide +kernel
theorem dX9_many_52 : decode cX9_many 52 = .ok (.aload_n 0, 1) := by decide +kernel
theorem dX9_many_53 : decode cX9_many 53 = .ok (.getfield 24, 3) := by decide +kernel
theorem dX9_many_56 : decode cX9_many 56 = .ok (.getfield 103, 3) := by decide +kernel
theorem dX9_many_59 : decode cX9_many 59 = .ok (.ireturn, 1) := by decide +kernel
theorem dX9_many_60 : decode cX9_many 60 = .ok (.aload_n 0, 1) := by decide +kernel
theorem dX9_many_61 : decode cX9_many 61 = .ok (.getfield 31, 3) := by decide +kernel
theorem dX9_many_64 : decode cX9_many 64 = .ok (.getfield 103, 3) := by decide +kernel
theorem dX9_many_67 : decode cX9_many 67 = .ok (.ireturn, 1) := by decide +kernel
theorem dX9_many_68 : decode cX9_many 68 = .ok (.aload_n 0, 1) := by decide +kernel
theorem dX9_many_69 : decode cX9_many 69 = .ok (.getfield 14, 3) := by decide +kernel
theorem dX9_many_72 : decode cX9_many 72 = .ok (.getfield 141, 3) := by decide +kernel
theorem dX9_many_75 : decode cX9_many 75 = .ok (.ireturn, 1) := by decide +kernel
theorem dX9_many_76 : decode cX9_many 76 = .ok (.bipush (-2), 2) := by decide +kernel
theorem dX9_many_78 : decode cX9_many 78 = .ok (.ireturn, 1) := by decide +kernel
theorem dX9_isWithin_0 : decode cX9_isWithin 0 = .ok (.iload_n 0, 1) := by decide +kernel
theorem dX9_isWithin_1 : decode cX9_isWithin 1 = .ok (.iload_n 1, 1) := by decide +kernel
theorem dX9_isWithin_2 : decode cX9_isWithin 2 = .ok (.if_icmp .lt 12, 3) := by decide +kernel
theorem dX9_isWithin_5 : decode cX9_isWithin 5 = .ok (.iload_n 0, 1) := by decide +kernel
theorem dX9_isWithin_6 : decode cX9_isWithin 6 = .ok (.iload_n 2, 1) := by decide +kernel
theorem dX9_isWithin_7 : decode cX9_isWithin 7 = .ok (.if_icmp .gt 7, 3) := by decide +kernel
theorem dX9_isWithin_10 : decode cX9_isWithin 10 = .ok (.iconst 1, 1) := by decide +kernel
theorem dX9_isWithin_11 : decode cX9_isWithin 11 = .ok (.goto 4, 3) := by decide +kernel
theorem dX9_isWithin_14 : decode cX9_isWithin 14 = .ok (.iconst 0, 1) := by decide +kernel
theorem dX9_isWithin_15 : decode cX9_isWithin 15 = .ok (.ireturn, 1) := by decide +kernel
set_option maxRecDepth 20000 in
theorem ggX9_isWatch_X9_isWithin : GoodIn wsX9_isWatch wsX9_isWithin := goodIn_r _ [4] rfl (by decide +kernel)
set_option maxRecDepth 20000 in
theorem gX9_isWatch_X9_isWithin : GoodIn wsX9_isWatch (va_wsS RX9 109 yX9_isWithin wsX9_isWithin) := goodIn_app (goodIn_of _ (by decide +kernel)) ggX9_isWatch_X9_isWithin
theorem dX9_isWatch_0 : decode cX9_isWatch 0 = .ok (.iload_n 0, 1) := by decide +kernel
theorem dX9_isWatch_1 : decode cX9_isWatch 1 = .ok (.iconst 0, 1) := by decide +kernel
theorem dX9_isWatch_2 : decode cX9_isWatch 2 = .ok (.bipush 23, 2) := by decide +kernel
theorem dX9_isWatch_4 : decode cX9_isWatch 4 = .ok (.invokestatic 109, 3) := by decide +kernel
theorem dX9_isWatch_7 : decode cX9_isWatch 7 = .ok (.ireturn, 1) := by decide +kernel
set_option maxRecDepth 20000 in
theorem ggX9_isDay_X9_isWithin : GoodIn wsX9_isDay wsX9_isWithin := goodIn_r _ [4] rfl (by decide +kernel)
set_option maxRecDepth 20000 in
theorem gX9_isDay_X9_isWithin : GoodIn wsX9_isDay (va_wsS RX9 109 yX9_isWithin wsX9_isWithin) := goodIn_app (goodIn_of _ (by decide +kernel)) ggX9_isDay_X9_isWithin
theorem dX9_isDay_0 : decode cX9_isDay 0 = .ok (.iload_n 0, 1) := by decide +kernel
theorem dX9_isDay_1 : decode cX9_isDay 1 = .ok (.iconst 0, 1) := by decide +kernel
theorem dX9_isDay_2 : decode cX9_isDay 2 = .ok (.iconst 3, 1) := by decide +kernel
theorem dX9_isDay_3 : decode cX9_isDay 3 = .ok (.invokestatic 109, 3) := by decide +kernel
theorem dX9_isDay_6 : decode cX9_isDay 6 = .ok (.ireturn, 1) := by decide +kernel
set_option maxRecDepth 20000 in
theorem ggX9_isSheet_X9_isWithin : GoodIn wsX9_isSheet wsX9_isWithin := goodIn_r _ [4] rfl (by decide +kernel)
set_option maxRecDepth 20000 in
theorem gX9_isSheet_X9_isWithin : GoodIn wsX9_isSheet (va_wsS RX9 109 yX9_isWithin wsX9_isWithin) := goodIn_app (goodIn_of _ (by decide +kernel)) ggX9_isSheet_X9_isWithin
theorem dX9_isSheet_0 : decode cX9_isSheet 0 = .ok (.iload_n 0, 1) := by decide +kernel
theorem dX9_isSheet_1 : decode cX9_isSheet 1 = .ok (.iconst 0, 1) := by decide +kernel
theorem dX9_isSheet_2 : decode cX9_isSheet 2 = .ok (.iconst 3, 1) := by decide +kernel
theorem dX9_isSheet_3 : decode cX9_isSheet 3 = .ok (.invokestatic 109, 3) := by decide +kernel
theorem dX9_isSheet_6 : decode cX9_isSheet 6 = .ok (.ireturn, 1) := by decide +kernel
set_option maxRecDepth 20000 in
theorem ggX9_isLane_X9_isWithin : GoodIn wsX9_isLane wsX9_isWithin := goodIn_r _ [4] rfl (by decide +kernel)
set_option maxRecDepth 20000 in
theorem gX9_isLane_X9_isWithin : GoodIn wsX9_isLane (va_wsS RX9 109 yX9_isWithin wsX9_isWithin) := goodIn_app (goodIn_of _ (by decide +kernel)) ggX9_isLane_X9_isWithin
theorem dX9_isLane_0 : decode cX9_isLane 0 = .ok (.iload_n 0, 1) := by decide +kernel
theorem dX9_isLane_1 : decode cX9_isLane 1 = .ok (.iconst 0, 1) := by decide +kernel
theorem dX9_isLane_2 : decode cX9_isLane 2 = .ok (.iconst 2, 1) := by decide +kernel
theorem dX9_isLane_3 : decode cX9_isLane 3 = .ok (.invokestatic 109, 3) := by decide +kernel
theorem dX9_isLane_6 : decode cX9_isLane 6 = .ok (.ireturn, 1) := by decide +kernel
theorem dX9_faulted_0 : decode cX9_faulted 0 = .ok (.aload_n 0, 1) := by decide +kernel
theorem dX9_faulted_1 : decode cX9_faulted 1 = .ok (.iload_n 1, 1) := by decide +kernel
theorem dX9_faulted_2 : decode cX9_faulted 2 = .ok (.putfield 61, 3) := by decide +kernel
theorem dX9_faulted_5 : decode cX9_faulted 5 = .ok (.bipush (-10), 2) := by decide +kernel
theorem dX9_faulted_7 : decode cX9_faulted 7 = .ok (.iload_n 1, 1) := by decide +kernel
theorem dX9_faulted_8 : decode cX9_faulted 8 = .ok (.isub, 1) := by decide +kernel
theorem dX9_faulted_9 : decode cX9_faulted 9 = .ok (.ireturn, 1) := by decide +kernel
theorem dX9_lostTo_0 : decode cX9_lostTo 0 = .ok (.aload_n 0, 1) := by decide +kernel
theorem dX9_lostTo_1 : decode cX9_lostTo 1 = .ok (.iload_n 1, 1) := by decide +kernel
theorem dX9_lostTo_2 : decode cX9_lostTo 2 = .ok (.putfield 61, 3) := by decide +kernel
theorem dX9_lostTo_5 : decode cX9_lostTo 5 = .ok (.ldc2_w 204, 3) := by decide +kernel
theorem dX9_lostTo_8 : decode cX9_lostTo 8 = .ok (.lreturn, 1) := by decide +kernel
set_option maxRecDepth 20000 in
theorem ggX9_readTried_X2_hasLamp : GoodIn wsX9_readTried wsX2_hasLamp := goodIn_r _ [9, 10, 50, 51, 52, 53, 54, 55, 56, 57] rfl (by decide +kernel)
set_option maxRecDepth 20000 in
theorem gX9_readTried_X2_hasLamp : GoodIn wsX9_readTried (wsV RX9 126 RX2 yX2_hasLamp wsX2_hasLamp) := goodIn_app (goodIn_of _ (by decide +kernel)) ggX9_readTried_X2_hasLamp
set_option maxRecDepth 20000 in
theorem ggX9_readTried_X9_isWatch : GoodIn wsX9_readTried wsX9_isWatch := goodIn_r _ [14, 15, 16, 13, 17] rfl (by decide +kernel)
set_option maxRecDepth 20000 in
theorem gX9_readTried_X9_isWatch : GoodIn wsX9_readTried (va_wsS RX9 144 yX9_isWatch wsX9_isWatch) := goodIn_app (goodIn_of _ (by decide +kernel)) ggX9_readTried_X9_isWatch
set_option maxRecDepth 20000 in
theorem ggX9_readTried_X2_hasSpot : GoodIn wsX9_readTried wsX2_hasSpot := goodIn_r _ [21, 22, 50, 51, 52, 53, 54, 55, 56, 57] rfl (by decide +kernel)
set_option maxRecDepth 20000 in
theorem gX9_readTried_X2_hasSpot : GoodIn wsX9_readTried (wsV RX9 120 RX2 yX2_hasSpot wsX2_hasSpot) := goodIn_app (goodIn_of _ (by decide +kernel)) ggX9_readTried_X2_hasSpot
set_option maxRecDepth 20000 in
theorem ggX9_readTried_X1_append : GoodIn wsX9_readTried wsX1_append := goodIn_r _ [27, 28, 29, 30, 31, 43, 44, 45, 46] rfl (by decide +kernel)
set_option maxRecDepth 20000 in
theorem gX9_readTried_X1_append : GoodIn wsX9_readTried (wsV RX9 147 RX1 yX1_append wsX1_append) := goodIn_app (goodIn_of _ (by decide +kernel)) ggX9_readTried_X1_append
theorem dX9_readTried_0 : decode cX9_readTried 0 = .ok (.aload_n 0, 1) := by decide +kernel
theorem dX9_readTried_1 : decode cX9_readTried 1 = .ok (.getfield 28, 3) := by decide +kernel
theorem dX9_readTried_4 : decode cX9_readTried 4 = .ok (.iconst 0, 1) := by decide +kernel
theorem dX9_readTried_5 : decode cX9_readTried 5 = .ok (.putfield 103, 3) := by decide +kernel
theorem dX9_readTried_8 : decode cX9_readTried 8 = .ok (.iconst 0, 1) := by decide +kernel
theorem dX9_readTried_9 : decode cX9_readTried 9 = .ok (.istore 4, 2) := by decide +kernel
theorem dX9_readTried_11 : decode cX9_readTried 11 = .ok (.iload 4, 2) := by decide +kernel
theorem dX9_readTried_13 : decode cX9_readTried 13 = .ok (.iload_n 3, 1) := by decide +kernel
theorem dX9_readTried_14 : decode cX9_readTried 14 = .ok (.if_icmp .ge 101, 3) := by decide +kernel
theorem dX9_readTried_17 : decode cX9_readTried 17 = .ok (.iload_n 2, 1) := by decide +kernel
theorem dX9_readTried_18 : decode cX9_readTried 18 = .ok (.iload 4, 2) := by decide +kernel
theorem dX9_readTried_20 : decode cX9_readTried 20 = .ok (.iconst 3, 1) := by decide +kernel
theorem dX9_readTried_21 : decode cX9_readTried 21 = .ok (.imul, 1) := by decide +kernel
theorem dX9_readTried_22 : decode cX9_readTried 22 = .ok (.iadd, 1) := by decide +kernel
theorem dX9_readTried_23 : decode cX9_readTried 23 = .ok (.istore 5, 2) := by decide +kernel
theorem dX9_readTried_25 : decode cX9_readTried 25 = .ok (.aload_n 1, 1) := by decide +kernel
theorem dX9_readTried_26 : decode cX9_readTried 26 = .ok (.getfield 216, 3) := by decide +kernel
theorem dX9_readTried_29 : decode cX9_readTried 29 = .ok (.iload 5, 2) := by decide +kernel
theorem dX9_readTried_31 : decode cX9_readTried 31 = .ok (.iaload, 1) := by decide +kernel
theorem dX9_readTried_32 : decode cX9_readTried 32 = .ok (.istore 6, 2) := by decide +kernel
theorem dX9_readTried_34 : decode cX9_readTried 34 = .ok (.aload_n 1, 1) := by decide +kernel
theorem dX9_readTried_35 : decode cX9_readTried 35 = .ok (.getfield 216, 3) := by decide +kernel
theorem dX9_readTried_38 : decode cX9_readTried 38 = .ok (.iload 5, 2) := by decide +kernel
theorem dX9_readTried_40 : decode cX9_readTried 40 = .ok (.iconst 1, 1) := by decide +kernel
theorem dX9_readTried_41 : decode cX9_readTried 41 = .ok (.iadd, 1) := by decide +kernel
theorem dX9_readTried_42 : decode cX9_readTried 42 = .ok (.iaload, 1) := by decide +kernel
theorem dX9_readTried_43 : decode cX9_readTried 43 = .ok (.istore 7, 2) := by decide +kernel
theorem dX9_readTried_45 : decode cX9_readTried 45 = .ok (.aload_n 1, 1) := by decide +kernel
theorem dX9_readTried_46 : decode cX9_readTried 46 = .ok (.getfield 216, 3) := by decide +kernel
theorem dX9_readTried_49 : decode cX9_readTried 49 = .ok (.iload 5, 2) := by decide +kernel
theorem dX9_readTried_51 : decode cX9_readTried 51 = .ok (.iconst 2, 1) := by decide +kernel
theorem dX9_readTried_52 : decode cX9_readTried 52 = .ok (.iadd, 1) := by decide +kernel
theorem dX9_readTried_53 : decode cX9_readTried 53 = .ok (.iaload, 1) := by decide +kernel
theorem dX9_readTried_54 : decode cX9_readTried 54 = .ok (.istore 8, 2) := by decide +kernel
theorem dX9_readTried_56 : decode cX9_readTried 56 = .ok (.aload_n 0, 1) := by decide +kernel
theorem dX9_readTried_57 : decode cX9_readTried 57 = .ok (.getfield 14, 3) := by decide +kernel
theorem dX9_readTried_60 : decode cX9_readTried 60 = .ok (.iload 6, 2) := by decide +kernel
theorem dX9_readTried_62 : decode cX9_readTried 62 = .ok (.invokevirtual 126, 3) := by decide +kernel
theorem dX9_readTried_65 : decode cX9_readTried 65 = .ok (.ifCond .ne 5, 3) := by decide +kernel
theorem dX9_readTried_68 : decode cX9_readTried 68 = .ok (.iconst (-1), 1) := by decide +kernel
theorem dX9_readTried_69 : decode cX9_readTried 69 = .ok (.ireturn, 1) := by decide +kernel
theorem dX9_readTried_70 : decode cX9_readTried 70 = .ok (.iload 7, 2) := by decide +kernel
theorem dX9_readTried_72 : decode cX9_readTried 72 = .ok (.invokestatic 144, 3) := by decide +kernel
theorem dX9_readTried_75 : decode cX9_readTried 75 = .ok (.ifCond .ne 6, 3) := by decide +kernel
theorem dX9_readTried_78 : decode cX9_readTried 78 = .ok (.bipush (-2), 2) := by decide +kernel
theorem dX9_readTried_80 : decode cX9_readTried 80 = .ok (.ireturn, 1) := by decide +kernel
theorem dX9_readTried_81 : decode cX9_readTried 81 = .ok (.aload_n 0, 1) := by decide +kernel
theorem dX9_readTried_82 : decode cX9_readTried 82 = .ok (.getfield 14, 3) := by decide +kernel
theorem dX9_readTried_85 : decode cX9_readTried 85 = .ok (.iload 8, 2) := by decide +kernel
theorem dX9_readTried_87 : decode cX9_readTried 87 = .ok (.invokevirtual 120, 3) := by decide +kernel
theorem dX9_readTried_90 : decode cX9_readTried 90 = .ok (.ifCond .ne 5, 3) := by decide +kernel
theorem dX9_readTried_93 : decode cX9_readTried 93 = .ok (.iconst (-1), 1) := by decide +kernel
theorem dX9_readTried_94 : decode cX9_readTried 94 = .ok (.ireturn, 1) := by decide +kernel
theorem dX9_readTried_95 : decode cX9_readTried 95 = .ok (.aload_n 0, 1) := by decide +kernel
theorem dX9_readTried_96 : decode cX9_readTried 96 = .ok (.getfield 28, 3) := by decide +kernel
theorem dX9_readTried_99 : decode cX9_readTried 99 = .ok (.iload 6, 2) := by decide +kernel
theorem dX9_readTried_101 : decode cX9_readTried 101 = .ok (.iload 7, 2) := by decide +kernel
theorem dX9_readTried_103 : decode cX9_readTried 103 = .ok (.iload 8, 2) := by decide +kernel
theorem dX9_readTried_105 : decode cX9_readTried 105 = .ok (.invokevirtual 147, 3) := by decide +kernel
theorem dX9_readTried_108 : decode cX9_readTried 108 = .ok (.pop, 1) := by decide +kernel
theorem dX9_readTried_109 : decode cX9_readTried 109 = .ok (.iinc 4 1, 3) := by decide +kernel
theorem dX9_readTried_112 : decode cX9_readTried 112 = .ok (.goto (-101), 3) := by decide +kernel
theorem dX9_readTried_115 : decode cX9_readTried 115 = .ok (.iconst 0, 1) := by decide +kernel
theorem dX9_readTried_116 : decode cX9_readTried 116 = .ok (.ireturn, 1) := by decide +kernel
set_option maxRecDepth 20000 in
theorem ggX9_bitIfReadingsHold_X8_reckon : GoodIn wsX9_bitIfReadingsHold wsX8_reckon := goodIn_r _ [13, 14, 15, 16, 17, 18, 12, 19, 20, 21, 22, 23, 24, 25, 26, 27, 28, 29, 30, 31, 32, 33, 34, 35, 36, 37, 38, 39, 40, 41, 42, 43, 44, 45, 46, 47, 48, 49, 50, 51, 52, 53, 54, 55, 56, 57, 58, 59, 60, 80, 81, 82, 83, 84, 85, 86, 87, 88, 89, 90, 91, 92, 76, 77, 78, 79] rfl (by decide +kernel)
set_option maxRecDepth 20000 in
theorem gX9_bitIfReadingsHold_X8_reckon : GoodIn wsX9_bitIfReadingsHold (wsV RX9 154 RX8 yX8_reckon wsX8_reckon) := goodIn_app (goodIn_of _ (by decide +kernel)) ggX9_bitIfReadingsHold_X8_reckon
set_option maxRecDepth 20000 in
theorem ggX9_bitIfReadingsHold_X8_lightOf : GoodIn wsX9_bitIfReadingsHold wsX8_lightOf := goodIn_r _ [64, 47, 27, 28, 12, 29, 88, 89, 90, 91, 92] rfl (by decide +kernel)
set_option maxRecDepth 20000 in
theorem gX9_bitIfReadingsHold_X8_lightOf : GoodIn wsX9_bitIfReadingsHold (wsV RX9 170 RX8 yX8_lightOf wsX8_lightOf) := goodIn_app (goodIn_of _ (by decide +kernel)) ggX9_bitIfReadingsHold_X8_lightOf
theorem dX9_bitIfReadingsHold_0 : decode cX9_bitIfReadingsHold 0 = .ok (.aload_n 0, 1) := by decide +kernel
theorem dX9_bitIfReadingsHold_1 : decode cX9_bitIfReadingsHold 1 = .ok (.getfield 41, 3) := by decide +kernel
theorem dX9_bitIfReadingsHold_4 : decode cX9_bitIfReadingsHold 4 = .ok (.aload_n 0, 1) := by decide +kernel
theorem dX9_bitIfReadingsHold_5 : decode cX9_bitIfReadingsHold 5 = .ok (.getfield 18, 3) := by decide +kernel
theorem dX9_bitIfReadingsHold_8 : decode cX9_bitIfReadingsHold 8 = .ok (.aload_n 0, 1) := by decide +kernel
theorem dX9_bitIfReadingsHold_9 : decode cX9_bitIfReadingsHold 9 = .ok (.getfield 24, 3) := by decide +kernel
theorem dX9_bitIfReadingsHold_12 : decode cX9_bitIfReadingsHold 12 = .ok (.invokevirtual 154, 3) := by decide +kernel
theorem dX9_bitIfReadingsHold_15 : decode cX9_bitIfReadingsHold 15 = .ok (.iconst 0, 1) := by decide +kernel
theorem dX9_bitIfReadingsHold_16 : decode cX9_bitIfReadingsHold 16 = .ok (.istore_n 2, 1) := by decide +kernel
theorem dX9_bitIfReadingsHold_17 : decode cX9_bitIfReadingsHold 17 = .ok (.iload_n 2, 1) := by decide +kernel
theorem dX9_bitIfReadingsHold_18 : decode cX9_bitIfReadingsHold 18 = .ok (.aload_n 0, 1) := by decide +kernel
theorem dX9_bitIfReadingsHold_19 : decode cX9_bitIfReadingsHold 19 = .ok (.getfield 31, 3) := by decide +kernel
theorem dX9_bitIfReadingsHold_22 : decode cX9_bitIfReadingsHold 22 = .ok (.getfield 103, 3) := by decide +kernel
theorem dX9_bitIfReadingsHold_25 : decode cX9_bitIfReadingsHold 25 = .ok (.if_icmp .ge 48, 3) := by decide +kernel
theorem dX9_bitIfReadingsHold_28 : decode cX9_bitIfReadingsHold 28 = .ok (.aload_n 0, 1) := by decide +kernel
theorem dX9_bitIfReadingsHold_29 : decode cX9_bitIfReadingsHold 29 = .ok (.getfield 41, 3) := by decide +kernel
theorem dX9_bitIfReadingsHold_32 : decode cX9_bitIfReadingsHold 32 = .ok (.aload_n 0, 1) := by decide +kernel
theorem dX9_bitIfReadingsHold_33 : decode cX9_bitIfReadingsHold 33 = .ok (.getfield 31, 3) := by decide +kernel
theorem dX9_bitIfReadingsHold_36 : decode cX9_bitIfReadingsHold 36 = .ok (.getfield 251, 3) := by decide +kernel
theorem dX9_bitIfReadingsHold_39 : decode cX9_bitIfReadingsHold 39 = .ok (.iload_n 2, 1) := by decide +kernel
theorem dX9_bitIfReadingsHold_40 : decode cX9_bitIfReadingsHold 40 = .ok (.iaload, 1) := by decide +kernel
theorem dX9_bitIfReadingsHold_41 : decode cX9_bitIfReadingsHold 41 = .ok (.aload_n 0, 1) := by decide +kernel
theorem dX9_bitIfReadingsHold_42 : decode cX9_bitIfReadingsHold 42 = .ok (.getfield 31, 3) := by decide +kernel
theorem dX9_bitIfReadingsHold_45 : decode cX9_bitIfReadingsHold 45 = .ok (.getfield 254, 3) := by decide +kernel
theorem dX9_bitIfReadingsHold_48 : decode cX9_bitIfReadingsHold 48 = .ok (.iload_n 2, 1) := by decide +kernel
theorem dX9_bitIfReadingsHold_49 : decode cX9_bitIfReadingsHold 49 = .ok (.iaload, 1) := by decide +kernel
theorem dX9_bitIfReadingsHold_50 : decode cX9_bitIfReadingsHold 50 = .ok (.invokevirtual 170, 3) := by decide +kernel
theorem dX9_bitIfReadingsHold_53 : decode cX9_bitIfReadingsHold 53 = .ok (.aload_n 0, 1) := by decide +kernel
theorem dX9_bitIfReadingsHold_54 : decode cX9_bitIfReadingsHold 54 = .ok (.getfield 31, 3) := by decide +kernel
theorem dX9_bitIfReadingsHold_57 : decode cX9_bitIfReadingsHold 57 = .ok (.getfield 257, 3) := by decide +kernel
theorem dX9_bitIfReadingsHold_60 : decode cX9_bitIfReadingsHold 60 = .ok (.iload_n 2, 1) := by decide +kernel
theorem dX9_bitIfReadingsHold_61 : decode cX9_bitIfReadingsHold 61 = .ok (.iaload, 1) := by decide +kernel
theorem dX9_bitIfReadingsHold_62 : decode cX9_bitIfReadingsHold 62 = .ok (.if_icmp .eq 5, 3) := by decide +kernel
theorem dX9_bitIfReadingsHold_65 : decode cX9_bitIfReadingsHold 65 = .ok (.iconst 0, 1) := by decide +kernel
theorem dX9_bitIfReadingsHold_66 : decode cX9_bitIfReadingsHold 66 = .ok (.ireturn, 1) := by decide +kernel
theorem dX9_bitIfReadingsHold_67 : decode cX9_bitIfReadingsHold 67 = .ok (.iinc 2 1, 3) := by decide +kernel
theorem dX9_bitIfReadingsHold_70 : decode cX9_bitIfReadingsHold 70 = .ok (.goto (-53), 3) := by decide +kernel
theorem dX9_bitIfReadingsHold_73 : decode cX9_bitIfReadingsHold 73 = .ok (.iconst 1, 1) := by decide +kernel
theorem dX9_bitIfReadingsHold_74 : decode cX9_bitIfReadingsHold 74 = .ok (.iload_n 1, 1) := by decide +kernel
theorem dX9_bitIfReadingsHold_75 : decode cX9_bitIfReadingsHold 75 = .ok (.ishl, 1) := by decide +kernel
theorem dX9_bitIfReadingsHold_76 : decode cX9_bitIfReadingsHold 76 = .ok (.ireturn, 1) := by decide +kernel
set_option maxRecDepth 20000 in
theorem ggX9_countCases_X2_become : GoodIn wsX9_countCases wsX2_become := goodIn_r _ [10, 11, 12, 13, 14, 15, 16, 17, 18, 19, 20, 21, 22, 83, 84, 85, 86, 87, 88, 89, 90] rfl (by decide +kernel)
set_option maxRecDepth 20000 in
theorem gX9_countCases_X2_become : GoodIn wsX9_countCases (wsV RX9 99 RX2 yX2_become wsX2_become) := goodIn_app (goodIn_of _ (by decide +kernel)) ggX9_countCases_X2_become
set_option maxRecDepth 20000 in
theorem ggX9_countCases_X8_reckon : GoodIn wsX9_countCases wsX8_reckon := goodIn_r _ [27, 28, 29, 30, 31, 32, 26, 33, 34, 35, 36, 37, 38, 39, 40, 41, 42, 43, 44, 45, 46, 9, 47, 14, 19, 22, 48, 49, 50, 51, 52, 53, 54, 55, 56, 57, 58, 16, 17, 18, 59, 60, 61, 62, 63, 64, 65, 66, 67, 83, 84, 85, 86, 87, 88, 89, 90, 91, 92, 93, 94, 95, 96, 97, 98, 99] rfl (by decide +kernel)
set_option maxRecDepth 20000 in
theorem gX9_countCases_X8_reckon : GoodIn wsX9_countCases (wsV RX9 154 RX8 yX8_reckon wsX8_reckon) := goodIn_app (goodIn_of _ (by decide +kernel)) ggX9_countCases_X8_reckon
set_option maxRecDepth 20000 in
theorem ggX9_countCases_X8_lightOf : GoodIn wsX9_countCases wsX8_lightOf := goodIn_r _ [71, 57, 41, 42, 26, 43, 91, 92, 93, 94, 95] rfl (by decide +kernel)
set_option maxRecDepth 20000 in
theorem gX9_countCases_X8_lightOf : GoodIn wsX9_countCases (wsV RX9 170 RX8 yX8_lightOf wsX8_lightOf) := goodIn_app (goodIn_of _ (by decide +kernel)) ggX9_countCases_X8_lightOf
theorem dX9_countCases_0 : decode cX9_countCases 0 = .ok (.aload_n 0, 1) := by decide +kernel
theorem dX9_countCases_1 : decode cX9_countCases 1 = .ok (.getfield 18, 3) := by decide +kernel
theorem dX9_countCases_4 : decode cX9_countCases 4 = .ok (.aload_n 0, 1) := by decide +kernel
theorem dX9_countCases_5 : decode cX9_countCases 5 = .ok (.getfield 14, 3) := by decide +kernel
theorem dX9_countCases_8 : decode cX9_countCases 8 = .ok (.invokevirtual 99, 3) := by decide +kernel
theorem dX9_countCases_11 : decode cX9_countCases 11 = .ok (.iconst 0, 1) := by decide +kernel
theorem dX9_countCases_12 : decode cX9_countCases 12 = .ok (.istore 5, 2) := by decide +kernel
theorem dX9_countCases_14 : decode cX9_countCases 14 = .ok (.iconst 0, 1) := by decide +kernel
theorem dX9_countCases_15 : decode cX9_countCases 15 = .ok (.istore 6, 2) := by decide +kernel
theorem dX9_countCases_17 : decode cX9_countCases 17 = .ok (.iload 6, 2) := by decide +kernel
theorem dX9_countCases_19 : decode cX9_countCases 19 = .ok (.iload 4, 2) := by decide +kernel
theorem dX9_countCases_21 : decode cX9_countCases 21 = .ok (.if_icmp .ge 82, 3) := by decide +kernel
theorem dX9_countCases_24 : decode cX9_countCases 24 = .ok (.iconst 0, 1) := by decide +kernel
theorem dX9_countCases_25 : decode cX9_countCases 25 = .ok (.istore 7, 2) := by decide +kernel
theorem dX9_countCases_27 : decode cX9_countCases 27 = .ok (.iload 7, 2) := by decide +kernel
theorem dX9_countCases_29 : decode cX9_countCases 29 = .ok (.iconst 4, 1) := by decide +kernel
theorem dX9_countCases_30 : decode cX9_countCases 30 = .ok (.if_icmp .ge 36, 3) := by decide +kernel
theorem dX9_countCases_33 : decode cX9_countCases 33 = .ok (.aload_n 0, 1) := by decide +kernel
theorem dX9_countCases_34 : decode cX9_countCases 34 = .ok (.getfield 18, 3) := by decide +kernel
theorem dX9_countCases_37 : decode cX9_countCases 37 = .ok (.getfield 138, 3) := by decide +kernel
theorem dX9_countCases_40 : decode cX9_countCases 40 = .ok (.iload 7, 2) := by decide +kernel
theorem dX9_countCases_42 : decode cX9_countCases 42 = .ok (.iload 6, 2) := by decide +kernel
theorem dX9_countCases_44 : decode cX9_countCases 44 = .ok (.iload 7, 2) := by decide +kernel
theorem dX9_countCases_46 : decode cX9_countCases 46 = .ok (.ishr, 1) := by decide +kernel
theorem dX9_countCases_47 : decode cX9_countCases 47 = .ok (.iconst 1, 1) := by decide +kernel
theorem dX9_countCases_48 : decode cX9_countCases 48 = .ok (.iand, 1) := by decide +kernel
theorem dX9_countCases_49 : decode cX9_countCases 49 = .ok (.iconst 1, 1) := by decide +kernel
theorem dX9_countCases_50 : decode cX9_countCases 50 = .ok (.if_icmp .ne 8, 3) := by decide +kernel
theorem dX9_countCases_53 : decode cX9_countCases 53 = .ok (.bipush 9, 2) := by decide +kernel
theorem dX9_countCases_55 : decode cX9_countCases 55 = .ok (.goto 4, 3) := by decide +kernel
theorem dX9_countCases_58 : decode cX9_countCases 58 = .ok (.iconst 0, 1) := by decide +kernel
theorem dX9_countCases_59 : decode cX9_countCases 59 = .ok (.iastore, 1) := by decide +kernel
theorem dX9_countCases_60 : decode cX9_countCases 60 = .ok (.iinc 7 1, 3) := by decide +kernel
theorem dX9_countCases_63 : decode cX9_countCases 63 = .ok (.goto (-36), 3) := by decide +kernel
theorem dX9_countCases_66 : decode cX9_countCases 66 = .ok (.aload_n 0, 1) := by decide +kernel
theorem dX9_countCases_67 : decode cX9_countCases 67 = .ok (.getfield 41, 3) := by decide +kernel
theorem dX9_countCases_70 : decode cX9_countCases 70 = .ok (.aload_n 0, 1) := by decide +kernel
theorem dX9_countCases_71 : decode cX9_countCases 71 = .ok (.getfield 18, 3) := by decide +kernel
theorem dX9_countCases_74 : decode cX9_countCases 74 = .ok (.aload_n 0, 1) := by decide +kernel
theorem dX9_countCases_75 : decode cX9_countCases 75 = .ok (.getfield 24, 3) := by decide +kernel
theorem dX9_countCases_78 : decode cX9_countCases 78 = .ok (.invokevirtual 154, 3) := by decide +kernel
theorem dX9_countCases_81 : decode cX9_countCases 81 = .ok (.aload_n 0, 1) := by decide +kernel
theorem dX9_countCases_82 : decode cX9_countCases 82 = .ok (.getfield 41, 3) := by decide +kernel
theorem dX9_countCases_85 : decode cX9_countCases 85 = .ok (.iload_n 1, 1) := by decide +kernel
theorem dX9_countCases_86 : decode cX9_countCases 86 = .ok (.iload_n 2, 1) := by decide +kernel
theorem dX9_countCases_87 : decode cX9_countCases 87 = .ok (.invokevirtual 170, 3) := by decide +kernel
theorem dX9_countCases_90 : decode cX9_countCases 90 = .ok (.iload_n 3, 1) := by decide +kernel
theorem dX9_countCases_91 : decode cX9_countCases 91 = .ok (.if_icmp .lt 6, 3) := by decide +kernel
theorem dX9_countCases_94 : decode cX9_countCases 94 = .ok (.iinc 5 1, 3) := by decide +kernel
theorem dX9_countCases_97 : decode cX9_countCases 97 = .ok (.iinc 6 1, 3) := by decide +kernel
theorem dX9_countCases_100 : decode cX9_countCases 100 = .ok (.goto (-83), 3) := by decide +kernel
theorem dX9_countCases_103 : decode cX9_countCases 103 = .ok (.iload 5, 2) := by decide +kernel
theorem dX9_countCases_105 : decode cX9_countCases 105 = .ok (.ireturn, 1) := by decide +kernel
theorem dX9_leave_0 : decode cX9_leave 0 = .ok (.aload_n 0, 1) := by decide +kernel
theorem dX9_leave_1 : decode cX9_leave 1 = .ok (.bipush 31, 2) := by decide +kernel
theorem dX9_leave_3 : decode cX9_leave 3 = .ok (.aload_n 0, 1) := by decide +kernel
theorem dX9_leave_4 : decode cX9_leave 4 = .ok (.getfield 57, 3) := by decide +kernel
theorem dX9_leave_7 : decode cX9_leave 7 = .ok (.imul, 1) := by decide +kernel
theorem dX9_leave_8 : decode cX9_leave 8 = .ok (.iload_n 1, 1) := by decide +kernel
theorem dX9_leave_9 : decode cX9_leave 9 = .ok (.iadd, 1) := by decide +kernel
theorem dX9_leave_10 : decode cX9_leave 10 = .ok (.putfield 57, 3) := by decide +kernel
theorem dX9_leave_13 : decode cX9_leave 13 = .ok (.return_, 1) := by decide +kernel
set_option maxRecDepth 20000 in
theorem ggX9_tellAsLamp_X9_leave : GoodIn wsX9_tellAsLamp wsX9_leave := goodIn_r _ [7, 8, 9, 10, 11, 12, 13, 14, 15, 16, 17, 18, 19] rfl (by decide +kernel)
set_option maxRecDepth 20000 in
theorem gX9_tellAsLamp_X9_leave : GoodIn wsX9_tellAsLamp (wsV RX9 260 RX9 yX9_leave wsX9_leave) := goodIn_app (goodIn_of _ (by decide +kernel)) ggX9_tellAsLamp_X9_leave
theorem dX9_tellAsLamp_0 : decode cX9_tellAsLamp 0 = .ok (.aload_n 0, 1) := by decide +kernel
theorem dX9_tellAsLamp_1 : decode cX9_tellAsLamp 1 = .ok (.iconst 1, 1) := by decide +kernel
theorem dX9_tellAsLamp_2 : decode cX9_tellAsLamp 2 = .ok (.invokevirtual 260, 3) := by decide +kernel
theorem dX9_tellAsLamp_5 : decode cX9_tellAsLamp 5 = .ok (.aload_n 0, 1) := by decide +kernel
theorem dX9_tellAsLamp_6 : decode cX9_tellAsLamp 6 = .ok (.getfield 14, 3) := by decide +kernel
theorem dX9_tellAsLamp_9 : decode cX9_tellAsLamp 9 = .ok (.getfield 132, 3) := by decide +kernel
theorem dX9_tellAsLamp_12 : decode cX9_tellAsLamp 12 = .ok (.iload_n 1, 1) := by decide +kernel
theorem dX9_tellAsLamp_13 : decode cX9_tellAsLamp 13 = .ok (.iaload, 1) := by decide +kernel
theorem dX9_tellAsLamp_14 : decode cX9_tellAsLamp 14 = .ok (.ireturn, 1) := by decide +kernel
set_option maxRecDepth 20000 in
theorem ggX9_tellAsMirrored_X9_leave : GoodIn wsX9_tellAsMirrored wsX9_leave := goodIn_r _ [5, 6, 13, 14, 15, 16, 17, 18, 19, 20, 21, 22, 23] rfl (by decide +kernel)
set_option maxRecDepth 20000 in
theorem gX9_tellAsMirrored_X9_leave : GoodIn wsX9_tellAsMirrored (wsV RX9 260 RX9 yX9_leave wsX9_leave) := goodIn_app (goodIn_of _ (by decide +kernel)) ggX9_tellAsMirrored_X9_leave
set_option maxRecDepth 20000 in
theorem ggX9_tellAsMirrored_X9_tellAsLamp : GoodIn wsX9_tellAsMirrored wsX9_tellAsLamp := goodIn_r _ [10, 11, 12, 1, 2, 3, 4, 5, 6, 13, 14, 15, 16, 17, 18, 19, 20, 21, 22, 23, 24, 25, 26, 27, 28, 29, 30, 31] rfl (by decide +kernel)
set_option maxRecDepth 20000 in
theorem gX9_tellAsMirrored_X9_tellAsLamp : GoodIn wsX9_tellAsMirrored (wsV RX9 241 RX9 yX9_tellAsLamp wsX9_tellAsLamp) := goodIn_app (goodIn_of _ (by decide +kernel)) ggX9_tellAsMirrored_X9_tellAsLamp
theorem dX9_tellAsMirrored_0 : decode cX9_tellAsMirrored 0 = .ok (.aload_n 0, 1) := by decide +kernel
theorem dX9_tellAsMirrored_1 : decode cX9_tellAsMirrored 1 = .ok (.iconst 2, 1) := by decide +kernel
theorem dX9_tellAsMirrored_2 : decode cX9_tellAsMirrored 2 = .ok (.invokevirtual 260, 3) := by decide +kernel
theorem dX9_tellAsMirrored_5 : decode cX9_tellAsMirrored 5 = .ok (.aload_n 0, 1) := by decide +kernel
theorem dX9_tellAsMirrored_6 : decode cX9_tellAsMirrored 6 = .ok (.iload_n 1, 1) := by decide +kernel
theorem dX9_tellAsMirrored_7 : decode cX9_tellAsMirrored 7 = .ok (.invokevirtual 241, 3) := by decide +kernel
theorem dX9_tellAsMirrored_10 : decode cX9_tellAsMirrored 10 = .ok (.bipush 100, 2) := by decide +kernel
theorem dX9_tellAsMirrored_12 : decode cX9_tellAsMirrored 12 = .ok (.iadd, 1) := by decide +kernel
theorem dX9_tellAsMirrored_13 : decode cX9_tellAsMirrored 13 = .ok (.ireturn, 1) := by decide +kernel
set_option maxRecDepth 20000 in
theorem ggX9_tellAsFeast_X9_leave : GoodIn wsX9_tellAsFeast wsX9_leave := goodIn_r _ [5, 6, 17, 18, 19, 20, 21, 22, 23, 24, 25, 26, 27] rfl (by decide +kernel)
set_option maxRecDepth 20000 in
theorem gX9_tellAsFeast_X9_leave : GoodIn wsX9_tellAsFeast (wsV RX9 260 RX9 yX9_leave wsX9_leave) := goodIn_app (goodIn_of _ (by decide +kernel)) ggX9_tellAsFeast_X9_leave
set_option maxRecDepth 20000 in
theorem ggX9_tellAsFeast_X9_tellAsMirrored : GoodIn wsX9_tellAsFeast wsX9_tellAsMirrored := goodIn_r _ [10, 1, 2, 3, 4, 5, 6, 11, 12, 13, 14, 15, 16, 17, 18, 19, 20, 21, 22, 23, 24, 25, 26, 27, 28, 29, 30, 31, 32, 33, 34, 35] rfl (by decide +kernel)
set_option maxRecDepth 20000 in
theorem gX9_tellAsFeast_X9_tellAsMirrored : GoodIn wsX9_tellAsFeast (wsV RX9 238 RX9 yX9_tellAsMirrored wsX9_tellAsMirrored) := goodIn_app (goodIn_of _ (by decide +kernel)) ggX9_tellAsFeast_X9_tellAsMirrored
set_option maxRecDepth 20000 in
theorem ggX9_tellAsFeast_X9_tellAsLamp : GoodIn wsX9_tellAsFeast wsX9_tellAsLamp := goodIn_r _ [14, 15, 16, 1, 2, 3, 4, 5, 6, 17, 18, 19, 20, 21, 22, 23, 24, 25, 26, 27, 28, 29, 30, 31, 32, 33, 34, 35] rfl (by decide +kernel)
set_option maxRecDepth 20000 in
theorem gX9_tellAsFeast_X9_tellAsLamp : GoodIn wsX9_tellAsFeast (wsV RX9 241 RX9 yX9_tellAsLamp wsX9_tellAsLamp) := goodIn_app (goodIn_of _ (by decide +kernel)) ggX9_tellAsFeast_X9_tellAsLamp
theorem dX9_tellAsFeast_0 : decode cX9_tellAsFeast 0 = .ok (.aload_n 0, 1) := by decide +kernel
theorem dX9_tellAsFeast_1 : decode cX9_tellAsFeast 1 = .ok (.iconst 3, 1) := by decide +kernel
theorem dX9_tellAsFeast_2 : decode cX9_tellAsFeast 2 = .ok (.invokevirtual 260, 3) := by decide +kernel
theorem dX9_tellAsFeast_5 : decode cX9_tellAsFeast 5 = .ok (.aload_n 0, 1) := by decide +kernel
theorem dX9_tellAsFeast_6 : decode cX9_tellAsFeast 6 = .ok (.iload_n 1, 1) := by decide +kernel
theorem dX9_tellAsFeast_7 : decode cX9_tellAsFeast 7 = .ok (.invokevirtual 238, 3) := by decide +kernel
theorem dX9_tellAsFeast_10 : decode cX9_tellAsFeast 10 = .ok (.istore_n 2, 1) := by decide +kernel
theorem dX9_tellAsFeast_11 : decode cX9_tellAsFeast 11 = .ok (.iload_n 2, 1) := by decide +kernel
theorem dX9_tellAsFeast_12 : decode cX9_tellAsFeast 12 = .ok (.aload_n 0, 1) := by decide +kernel
theorem dX9_tellAsFeast_13 : decode cX9_tellAsFeast 13 = .ok (.iload_n 1, 1) := by decide +kernel
theorem dX9_tellAsFeast_14 : decode cX9_tellAsFeast 14 = .ok (.invokevirtual 241, 3) := by decide +kernel
theorem dX9_tellAsFeast_17 : decode cX9_tellAsFeast 17 = .ok (.iadd, 1) := by decide +kernel
theorem dX9_tellAsFeast_18 : decode cX9_tellAsFeast 18 = .ok (.ireturn, 1) := by decide +kernel
set_option maxRecDepth 20000 in
theorem ggX9_seeAsLent_X9_leave : GoodIn wsX9_seeAsLent wsX9_leave := goodIn_r _ [5, 6, 7, 8, 9, 10, 11, 12, 13, 14, 15, 16, 17] rfl (by decide +kernel)
set_option maxRecDepth 20000 in
theorem gX9_seeAsLent_X9_leave : GoodIn wsX9_seeAsLent (wsV RX9 260 RX9 yX9_leave wsX9_leave) := goodIn_app (goodIn_of _ (by decide +kernel)) ggX9_seeAsLent_X9_leave
theorem dX9_seeAsLent_0 : decode cX9_seeAsLent 0 = .ok (.aload_n 0, 1) := by decide +kernel
theorem dX9_seeAsLent_1 : decode cX9_seeAsLent 1 = .ok (.iconst 4, 1) := by decide +kernel
theorem dX9_seeAsLent_2 : decode cX9_seeAsLent 2 = .ok (.invokevirtual 260, 3) := by decide +kernel
theorem dX9_seeAsLent_5 : decode cX9_seeAsLent 5 = .ok (.iload_n 1, 1) := by decide +kernel
theorem dX9_seeAsLent_6 : decode cX9_seeAsLent 6 = .ok (.ireturn, 1) := by decide +kernel
set_option maxRecDepth 20000 in
theorem ggX9_seeAsFeast_X9_leave : GoodIn wsX9_seeAsFeast wsX9_leave := goodIn_r _ [5, 6, 7, 8, 9, 10, 11, 12, 13, 14, 15, 16, 17] rfl (by decide +kernel)
set_option maxRecDepth 20000 in
theorem gX9_seeAsFeast_X9_leave : GoodIn wsX9_seeAsFeast (wsV RX9 260 RX9 yX9_leave wsX9_leave) := goodIn_app (goodIn_of _ (by decide +kernel)) ggX9_seeAsFeast_X9_leave
theorem dX9_seeAsFeast_0 : decode cX9_seeAsFeast 0 = .ok (.aload_n 0, 1) := by decide +kernel
theorem dX9_seeAsFeast_1 : decode cX9_seeAsFeast 1 = .ok (.iconst 5, 1) := by decide +kernel
theorem dX9_seeAsFeast_2 : decode cX9_seeAsFeast 2 = .ok (.invokevirtual 260, 3) := by decide +kernel
theorem dX9_seeAsFeast_5 : decode cX9_seeAsFeast 5 = .ok (.bipush 60, 2) := by decide +kernel
theorem dX9_seeAsFeast_7 : decode cX9_seeAsFeast 7 = .ok (.ireturn, 1) := by decide +kernel
