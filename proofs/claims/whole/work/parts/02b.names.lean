theorem dX0_holdShut_0 : decode cX0_holdShut 0 = .ok (.aload_n 0, 1) := by decide +kernel
theorem dX0_holdShut_1 : decode cX0_holdShut 1 = .ok (.iconst 1, 1) := by decide +kernel
theorem dX0_holdShut_2 : decode cX0_holdShut 2 = .ok (.putfield 17, 3) := by decide +kernel
theorem dX0_holdShut_5 : decode cX0_holdShut 5 = .ok (.return_, 1) := by decide +kernel
theorem dX0_empty_0 : decode cX0_empty 0 = .ok (.aload_n 0, 1) := by decide +kernel
theorem dX0_empty_1 : decode cX0_empty 1 = .ok (.iconst 0, 1) := by decide +kernel
theorem dX0_empty_2 : decode cX0_empty 2 = .ok (.putfield 17, 3) := by decide +kernel
theorem dX0_empty_5 : decode cX0_empty 5 = .ok (.aload_n 0, 1) := by decide +kernel
theorem dX0_empty_6 : decode cX0_empty 6 = .ok (.iconst 0, 1) := by decide +kernel
theorem dX0_empty_7 : decode cX0_empty 7 = .ok (.putfield 20, 3) := by decide +kernel
theorem dX0_empty_10 : decode cX0_empty 10 = .ok (.return_, 1) := by decide +kernel
theorem dX1_init_0 : decode cX1_init 0 = .ok (.aload_n 0, 1) := by decide +kernel
theorem dX1_init_1 : decode cX1_init 1 = .ok (.invokespecial 1, 3) := by decide +kernel
theorem dX1_init_4 : decode cX1_init 4 = .ok (.aload_n 0, 1) := by decide +kernel
theorem dX1_init_5 : decode cX1_init 5 = .ok (.iload_n 1, 1) := by decide +kernel
theorem dX1_init_6 : decode cX1_init 6 = .ok (.putfield 7, 3) := by decide +kernel
theorem dX1_init_9 : decode cX1_init 9 = .ok (.aload_n 0, 1) := by decide +kernel
theorem dX1_init_10 : decode cX1_init 10 = .ok (.bipush 8, 2) := by decide +kernel
theorem dX1_init_12 : decode cX1_init 12 = .ok (.anewarray 13, 3) := by decide +kernel
theorem dX1_init_15 : decode cX1_init 15 = .ok (.putfield 15, 3) := by decide +kernel
theorem dX1_init_18 : decode cX1_init 18 = .ok (.return_, 1) := by decide +kernel
theorem dX1_isRowFull_0 : decode cX1_isRowFull 0 = .ok (.aload_n 0, 1) := by decide +kernel
theorem dX1_isRowFull_1 : decode cX1_isRowFull 1 = .ok (.getfield 19, 3) := by decide +kernel
theorem dX1_isRowFull_4 : decode cX1_isRowFull 4 = .ok (.bipush 8, 2) := by decide +kernel
theorem dX1_isRowFull_6 : decode cX1_isRowFull 6 = .ok (.if_icmp .lt 7, 3) := by decide +kernel
theorem dX1_isRowFull_9 : decode cX1_isRowFull 9 = .ok (.iconst 1, 1) := by decide +kernel
theorem dX1_isRowFull_10 : decode cX1_isRowFull 10 = .ok (.goto 4, 3) := by decide +kernel
theorem dX1_isRowFull_13 : decode cX1_isRowFull 13 = .ok (.iconst 0, 1) := by decide +kernel
theorem dX1_isRowFull_14 : decode cX1_isRowFull 14 = .ok (.ireturn, 1) := by decide +kernel
set_option maxRecDepth 20000 in
theorem ggX1_addLast_X1_isRowFull : GoodIn wsX1_addLast wsX1_isRowFull := goodIn_r _ [7, 2, 8, 9, 10, 11, 12] (by decide +kernel) (by decide +kernel)
set_option maxRecDepth 20000 in
theorem gX1_addLast_X1_isRowFull : GoodIn wsX1_addLast (wsV RX1 22 RX1 yX1_isRowFull wsX1_isRowFull) := goodIn_app (goodIn_of _ (by decide +kernel)) ggX1_addLast_X1_isRowFull
theorem dX1_addLast_0 : decode cX1_addLast 0 = .ok (.aload_n 0, 1) := by decide +kernel
theorem dX1_addLast_1 : decode cX1_addLast 1 = .ok (.invokevirtual 22, 3) := by decide +kernel
theorem dX1_addLast_4 : decode cX1_addLast 4 = .ok (.ifCond .ne 23, 3) := by decide +kernel
theorem dX1_addLast_7 : decode cX1_addLast 7 = .ok (.aload_n 0, 1) := by decide +kernel
theorem dX1_addLast_8 : decode cX1_addLast 8 = .ok (.getfield 15, 3) := by decide +kernel
theorem dX1_addLast_11 : decode cX1_addLast 11 = .ok (.aload_n 0, 1) := by decide +kernel
theorem dX1_addLast_12 : decode cX1_addLast 12 = .ok (.getfield 19, 3) := by decide +kernel
theorem dX1_addLast_15 : decode cX1_addLast 15 = .ok (.aload_n 1, 1) := by decide +kernel
theorem dX1_addLast_16 : decode cX1_addLast 16 = .ok (.aastore, 1) := by decide +kernel
theorem dX1_addLast_17 : decode cX1_addLast 17 = .ok (.aload_n 0, 1) := by decide +kernel
theorem dX1_addLast_18 : decode cX1_addLast 18 = .ok (.dup, 1) := by decide +kernel
theorem dX1_addLast_19 : decode cX1_addLast 19 = .ok (.getfield 19, 3) := by decide +kernel
theorem dX1_addLast_22 : decode cX1_addLast 22 = .ok (.iconst 1, 1) := by decide +kernel
theorem dX1_addLast_23 : decode cX1_addLast 23 = .ok (.iadd, 1) := by decide +kernel
theorem dX1_addLast_24 : decode cX1_addLast 24 = .ok (.putfield 19, 3) := by decide +kernel
theorem dX1_addLast_27 : decode cX1_addLast 27 = .ok (.return_, 1) := by decide +kernel
theorem dX1_first_0 : decode cX1_first 0 = .ok (.aload_n 0, 1) := by decide +kernel
theorem dX1_first_1 : decode cX1_first 1 = .ok (.getfield 19, 3) := by decide +kernel
theorem dX1_first_4 : decode cX1_first 4 = .ok (.ifCond .le 12, 3) := by decide +kernel
theorem dX1_first_7 : decode cX1_first 7 = .ok (.aload_n 0, 1) := by decide +kernel
theorem dX1_first_8 : decode cX1_first 8 = .ok (.getfield 15, 3) := by decide +kernel
theorem dX1_first_11 : decode cX1_first 11 = .ok (.iconst 0, 1) := by decide +kernel
theorem dX1_first_12 : decode cX1_first 12 = .ok (.aaload, 1) := by decide +kernel
theorem dX1_first_13 : decode cX1_first 13 = .ok (.goto 4, 3) := by decide +kernel
theorem dX1_first_16 : decode cX1_first 16 = .ok (.aconst_null, 1) := by decide +kernel
theorem dX1_first_17 : decode cX1_first 17 = .ok (.areturn, 1) := by decide +kernel
theorem dX1_removeFirst_0 : decode cX1_removeFirst 0 = .ok (.aload_n 0, 1) := by decide +kernel
theorem dX1_removeFirst_1 : decode cX1_removeFirst 1 = .ok (.getfield 19, 3) := by decide +kernel
theorem dX1_removeFirst_4 : decode cX1_removeFirst 4 = .ok (.ifCond .le 53, 3) := by decide +kernel
theorem dX1_removeFirst_7 : decode cX1_removeFirst 7 = .ok (.aload_n 0, 1) := by decide +kernel
theorem dX1_removeFirst_8 : decode cX1_removeFirst 8 = .ok (.dup, 1) := by decide +kernel
theorem dX1_removeFirst_9 : decode cX1_removeFirst 9 = .ok (.getfield 19, 3) := by decide +kernel
theorem dX1_removeFirst_12 : decode cX1_removeFirst 12 = .ok (.iconst 1, 1) := by decide +kernel
theorem dX1_removeFirst_13 : decode cX1_removeFirst 13 = .ok (.isub, 1) := by decide +kernel
theorem dX1_removeFirst_14 : decode cX1_removeFirst 14 = .ok (.putfield 19, 3) := by decide +kernel
theorem dX1_removeFirst_17 : decode cX1_removeFirst 17 = .ok (.iconst 0, 1) := by decide +kernel
theorem dX1_removeFirst_18 : decode cX1_removeFirst 18 = .ok (.istore_n 1, 1) := by decide +kernel
theorem dX1_removeFirst_19 : decode cX1_removeFirst 19 = .ok (.iload_n 1, 1) := by decide +kernel
theorem dX1_removeFirst_20 : decode cX1_removeFirst 20 = .ok (.aload_n 0, 1) := by decide +kernel
theorem dX1_removeFirst_21 : decode cX1_removeFirst 21 = .ok (.getfield 19, 3) := by decide +kernel
theorem dX1_removeFirst_24 : decode cX1_removeFirst 24 = .ok (.if_icmp .ge 23, 3) := by decide +kernel
theorem dX1_removeFirst_27 : decode cX1_removeFirst 27 = .ok (.aload_n 0, 1) := by decide +kernel
theorem dX1_removeFirst_28 : decode cX1_removeFirst 28 = .ok (.getfield 15, 3) := by decide +kernel
theorem dX1_removeFirst_31 : decode cX1_removeFirst 31 = .ok (.iload_n 1, 1) := by decide +kernel
theorem dX1_removeFirst_32 : decode cX1_removeFirst 32 = .ok (.aload_n 0, 1) := by decide +kernel
theorem dX1_removeFirst_33 : decode cX1_removeFirst 33 = .ok (.getfield 15, 3) := by decide +kernel
theorem dX1_removeFirst_36 : decode cX1_removeFirst 36 = .ok (.iload_n 1, 1) := by decide +kernel
theorem dX1_removeFirst_37 : decode cX1_removeFirst 37 = .ok (.iconst 1, 1) := by decide +kernel
theorem dX1_removeFirst_38 : decode cX1_removeFirst 38 = .ok (.iadd, 1) := by decide +kernel
theorem dX1_removeFirst_39 : decode cX1_removeFirst 39 = .ok (.aaload, 1) := by decide +kernel
theorem dX1_removeFirst_40 : decode cX1_removeFirst 40 = .ok (.aastore, 1) := by decide +kernel
theorem dX1_removeFirst_41 : decode cX1_removeFirst 41 = .ok (.iinc 1 1, 3) := by decide +kernel
theorem dX1_removeFirst_44 : decode cX1_removeFirst 44 = .ok (.goto (-25), 3) := by decide +kernel
theorem dX1_removeFirst_47 : decode cX1_removeFirst 47 = .ok (.aload_n 0, 1) := by decide +kernel
theorem dX1_removeFirst_48 : decode cX1_removeFirst 48 = .ok (.getfield 15, 3) := by decide +kernel
theorem dX1_removeFirst_51 : decode cX1_removeFirst 51 = .ok (.aload_n 0, 1) := by decide +kernel
theorem dX1_removeFirst_52 : decode cX1_removeFirst 52 = .ok (.getfield 19, 3) := by decide +kernel
theorem dX1_removeFirst_55 : decode cX1_removeFirst 55 = .ok (.aconst_null, 1) := by decide +kernel
theorem dX1_removeFirst_56 : decode cX1_removeFirst 56 = .ok (.aastore, 1) := by decide +kernel
theorem dX1_removeFirst_57 : decode cX1_removeFirst 57 = .ok (.return_, 1) := by decide +kernel
theorem dX2_init_0 : decode cX2_init 0 = .ok (.aload_n 0, 1) := by decide +kernel
theorem dX2_init_1 : decode cX2_init 1 = .ok (.invokespecial 1, 3) := by decide +kernel
theorem dX2_init_4 : decode cX2_init 4 = .ok (.aload_n 0, 1) := by decide +kernel
theorem dX2_init_5 : decode cX2_init 5 = .ok (.iload_n 1, 1) := by decide +kernel
theorem dX2_init_6 : decode cX2_init 6 = .ok (.putfield 7, 3) := by decide +kernel
theorem dX2_init_9 : decode cX2_init 9 = .ok (.aload_n 0, 1) := by decide +kernel
theorem dX2_init_10 : decode cX2_init 10 = .ok (.iload_n 2, 1) := by decide +kernel
theorem dX2_init_11 : decode cX2_init 11 = .ok (.putfield 13, 3) := by decide +kernel
theorem dX2_init_14 : decode cX2_init 14 = .ok (.aload_n 0, 1) := by decide +kernel
theorem dX2_init_15 : decode cX2_init 15 = .ok (.iload_n 3, 1) := by decide +kernel
theorem dX2_init_16 : decode cX2_init 16 = .ok (.putfield 16, 3) := by decide +kernel
theorem dX2_init_19 : decode cX2_init 19 = .ok (.aload_n 0, 1) := by decide +kernel
theorem dX2_init_20 : decode cX2_init 20 = .ok (.getstatic 19, 3) := by decide +kernel
theorem dX2_init_23 : decode cX2_init 23 = .ok (.putfield 25, 3) := by decide +kernel
theorem dX2_init_26 : decode cX2_init 26 = .ok (.return_, 1) := by decide +kernel
set_option maxRecDepth 20000 in
theorem ggX4_init_X4_bringWithin : GoodIn wsX4_init wsX4_bringWithin := goodIn_r _ [22, 23, 24, 25, 26, 27, 28, 29] (by decide +kernel) (by decide +kernel)
set_option maxRecDepth 20000 in
theorem gX4_init_X4_bringWithin : GoodIn wsX4_init (va_wsS RX4 9 yX4_bringWithin wsX4_bringWithin) := goodIn_app (goodIn_of _ (by decide +kernel)) ggX4_init_X4_bringWithin
set_option maxRecDepth 20000 in
theorem ggX4_init_X1_init : GoodIn wsX4_init wsX1_init := goodIn_r _ [32, 33, 2, 3, 34, 35, 36, 56, 57, 58, 59, 60] (by decide +kernel) (by decide +kernel)
set_option maxRecDepth 20000 in
theorem gX4_init_X1_init : GoodIn wsX4_init (wsX1_init) := ggX4_init_X1_init
set_option maxRecDepth 20000 in
theorem ggX4_init_X0_init : GoodIn wsX4_init wsX0_init := goodIn_r _ [39, 40, 2, 3, 41, 42, 61, 62, 63, 64] (by decide +kernel) (by decide +kernel)
set_option maxRecDepth 20000 in
theorem gX4_init_X0_init : GoodIn wsX4_init (wsX0_init) := ggX4_init_X0_init
theorem dX4_init_0 : decode cX4_init 0 = .ok (.aload_n 0, 1) := by decide +kernel
theorem dX4_init_1 : decode cX4_init 1 = .ok (.invokespecial 1, 3) := by decide +kernel
theorem dX4_init_4 : decode cX4_init 4 = .ok (.aload_n 0, 1) := by decide +kernel
theorem dX4_init_5 : decode cX4_init 5 = .ok (.iload_n 1, 1) := by decide +kernel
theorem dX4_init_6 : decode cX4_init 6 = .ok (.sipush 200, 3) := by decide +kernel
theorem dX4_init_9 : decode cX4_init 9 = .ok (.invokestatic 9, 3) := by decide +kernel
theorem dX4_init_12 : decode cX4_init 12 = .ok (.putfield 13, 3) := by decide +kernel
theorem dX4_init_15 : decode cX4_init 15 = .ok (.aload_n 0, 1) := by decide +kernel
theorem dX4_init_16 : decode cX4_init 16 = .ok (.iload_n 2, 1) := by decide +kernel
theorem dX4_init_17 : decode cX4_init 17 = .ok (.bipush 20, 2) := by decide +kernel
theorem dX4_init_19 : decode cX4_init 19 = .ok (.invokestatic 9, 3) := by decide +kernel
theorem dX4_init_22 : decode cX4_init 22 = .ok (.putfield 17, 3) := by decide +kernel
theorem dX4_init_25 : decode cX4_init 25 = .ok (.aload_n 0, 1) := by decide +kernel
theorem dX4_init_26 : decode cX4_init 26 = .ok (.aload_n 0, 1) := by decide +kernel
theorem dX4_init_27 : decode cX4_init 27 = .ok (.getfield 13, 3) := by decide +kernel
theorem dX4_init_30 : decode cX4_init 30 = .ok (.anewarray 20, 3) := by decide +kernel
theorem dX4_init_33 : decode cX4_init 33 = .ok (.putfield 22, 3) := by decide +kernel
theorem dX4_init_36 : decode cX4_init 36 = .ok (.aload_n 0, 1) := by decide +kernel
theorem dX4_init_37 : decode cX4_init 37 = .ok (.sipush 400, 3) := by decide +kernel
theorem dX4_init_40 : decode cX4_init 40 = .ok (.anewarray 20, 3) := by decide +kernel
theorem dX4_init_43 : decode cX4_init 43 = .ok (.putfield 26, 3) := by decide +kernel
theorem dX4_init_46 : decode cX4_init 46 = .ok (.aload_n 0, 1) := by decide +kernel
theorem dX4_init_47 : decode cX4_init 47 = .ok (.sipush 400, 3) := by decide +kernel
theorem dX4_init_50 : decode cX4_init 50 = .ok (.anewarray 20, 3) := by decide +kernel
theorem dX4_init_53 : decode cX4_init 53 = .ok (.putfield 29, 3) := by decide +kernel
theorem dX4_init_56 : decode cX4_init 56 = .ok (.aload_n 0, 1) := by decide +kernel
theorem dX4_init_57 : decode cX4_init 57 = .ok (.iconst 1, 1) := by decide +kernel
theorem dX4_init_58 : decode cX4_init 58 = .ok (.putfield 32, 3) := by decide +kernel
theorem dX4_init_61 : decode cX4_init 61 = .ok (.aload_n 0, 1) := by decide +kernel
theorem dX4_init_62 : decode cX4_init 62 = .ok (.iconst 4, 1) := by decide +kernel
theorem dX4_init_63 : decode cX4_init 63 = .ok (.anewarray 35, 3) := by decide +kernel
theorem dX4_init_66 : decode cX4_init 66 = .ok (.putfield 37, 3) := by decide +kernel
theorem dX4_init_69 : decode cX4_init 69 = .ok (.iconst 0, 1) := by decide +kernel
theorem dX4_init_70 : decode cX4_init 70 = .ok (.istore_n 3, 1) := by decide +kernel
theorem dX4_init_71 : decode cX4_init 71 = .ok (.iload_n 3, 1) := by decide +kernel
theorem dX4_init_72 : decode cX4_init 72 = .ok (.iconst 4, 1) := by decide +kernel
theorem dX4_init_73 : decode cX4_init 73 = .ok (.if_icmp .ge 30, 3) := by decide +kernel
theorem dX4_init_76 : decode cX4_init 76 = .ok (.aload_n 0, 1) := by decide +kernel
theorem dX4_init_77 : decode cX4_init 77 = .ok (.getfield 37, 3) := by decide +kernel
theorem dX4_init_80 : decode cX4_init 80 = .ok (.iload_n 3, 1) := by decide +kernel
theorem dX4_init_81 : decode cX4_init 81 = .ok (.new 35, 3) := by decide +kernel
theorem dX4_init_84 : decode cX4_init 84 = .ok (.dup, 1) := by decide +kernel
theorem dX4_init_85 : decode cX4_init 85 = .ok (.iload_n 3, 1) := by decide +kernel
theorem dX4_init_86 : decode cX4_init 86 = .ok (.aload_n 0, 1) := by decide +kernel
theorem dX4_init_87 : decode cX4_init 87 = .ok (.getfield 13, 3) := by decide +kernel
theorem dX4_init_90 : decode cX4_init 90 = .ok (.imul, 1) := by decide +kernel
theorem dX4_init_91 : decode cX4_init 91 = .ok (.iconst 4, 1) := by decide +kernel
theorem dX4_init_92 : decode cX4_init 92 = .ok (.idiv, 1) := by decide +kernel
theorem dX4_init_93 : decode cX4_init 93 = .ok (.invokespecial 41, 3) := by decide +kernel
theorem dX4_init_96 : decode cX4_init 96 = .ok (.aastore, 1) := by decide +kernel
theorem dX4_init_97 : decode cX4_init 97 = .ok (.iinc 3 1, 3) := by decide +kernel
theorem dX4_init_100 : decode cX4_init 100 = .ok (.goto (-29), 3) := by decide +kernel
theorem dX4_init_103 : decode cX4_init 103 = .ok (.aload_n 0, 1) := by decide +kernel
theorem dX4_init_104 : decode cX4_init 104 = .ok (.bipush 16, 2) := by decide +kernel
theorem dX4_init_106 : decode cX4_init 106 = .ok (.anewarray 44, 3) := by decide +kernel
theorem dX4_init_109 : decode cX4_init 109 = .ok (.putfield 46, 3) := by decide +kernel
theorem dX4_init_112 : decode cX4_init 112 = .ok (.iconst 0, 1) := by decide +kernel
theorem dX4_init_113 : decode cX4_init 113 = .ok (.istore_n 3, 1) := by decide +kernel
theorem dX4_init_114 : decode cX4_init 114 = .ok (.iload_n 3, 1) := by decide +kernel
theorem dX4_init_115 : decode cX4_init 115 = .ok (.bipush 16, 2) := by decide +kernel
theorem dX4_init_117 : decode cX4_init 117 = .ok (.if_icmp .ge 49, 3) := by decide +kernel
theorem dX4_init_120 : decode cX4_init 120 = .ok (.aload_n 0, 1) := by decide +kernel
theorem dX4_init_121 : decode cX4_init 121 = .ok (.getfield 46, 3) := by decide +kernel
theorem dX4_init_124 : decode cX4_init 124 = .ok (.iload_n 3, 1) := by decide +kernel
theorem dX4_init_125 : decode cX4_init 125 = .ok (.new 44, 3) := by decide +kernel
theorem dX4_init_128 : decode cX4_init 128 = .ok (.dup, 1) := by decide +kernel
theorem dX4_init_129 : decode cX4_init 129 = .ok (.iload_n 3, 1) := by decide +kernel
theorem dX4_init_130 : decode cX4_init 130 = .ok (.aload_n 0, 1) := by decide +kernel
theorem dX4_init_131 : decode cX4_init 131 = .ok (.getfield 13, 3) := by decide +kernel
theorem dX4_init_134 : decode cX4_init 134 = .ok (.imul, 1) := by decide +kernel
theorem dX4_init_135 : decode cX4_init 135 = .ok (.aload_n 0, 1) := by decide +kernel
theorem dX4_init_136 : decode cX4_init 136 = .ok (.getfield 13, 3) := by decide +kernel
theorem dX4_init_139 : decode cX4_init 139 = .ok (.iconst 2, 1) := by decide +kernel
theorem dX4_init_140 : decode cX4_init 140 = .ok (.idiv, 1) := by decide +kernel
theorem dX4_init_141 : decode cX4_init 141 = .ok (.iadd, 1) := by decide +kernel
theorem dX4_init_142 : decode cX4_init 142 = .ok (.bipush 16, 2) := by decide +kernel
theorem dX4_init_144 : decode cX4_init 144 = .ok (.idiv, 1) := by decide +kernel
theorem dX4_init_145 : decode cX4_init 145 = .ok (.iload_n 3, 1) := by decide +kernel
theorem dX4_init_146 : decode cX4_init 146 = .ok (.bipush 15, 2) := by decide +kernel
theorem dX4_init_148 : decode cX4_init 148 = .ok (.if_icmp .ne 7, 3) := by decide +kernel
theorem dX4_init_151 : decode cX4_init 151 = .ok (.iconst 1, 1) := by decide +kernel
theorem dX4_init_152 : decode cX4_init 152 = .ok (.goto 4, 3) := by decide +kernel
theorem dX4_init_155 : decode cX4_init 155 = .ok (.iconst 0, 1) := by decide +kernel
theorem dX4_init_156 : decode cX4_init 156 = .ok (.invokespecial 50, 3) := by decide +kernel
theorem dX4_init_159 : decode cX4_init 159 = .ok (.aastore, 1) := by decide +kernel
theorem dX4_init_160 : decode cX4_init 160 = .ok (.iinc 3 1, 3) := by decide +kernel
theorem dX4_init_163 : decode cX4_init 163 = .ok (.goto (-49), 3) := by decide +kernel
theorem dX4_init_166 : decode cX4_init 166 = .ok (.return_, 1) := by decide +kernel
set_option maxRecDepth 20000 in
theorem ggX4_induct_X4_isInduct : GoodIn wsX4_induct wsX4_isInduct := goodIn_r _ [11] (by decide +kernel) (by decide +kernel)
set_option maxRecDepth 20000 in
theorem gX4_induct_X4_isInduct : GoodIn wsX4_induct (va_wsS RX4 53 yX4_isInduct wsX4_isInduct) := goodIn_app (goodIn_of _ (by decide +kernel)) ggX4_induct_X4_isInduct
set_option maxRecDepth 20000 in
theorem ggX4_induct_X4_isChute : GoodIn wsX4_induct wsX4_isChute := goodIn_r _ [14] (by decide +kernel) (by decide +kernel)
set_option maxRecDepth 20000 in
theorem gX4_induct_X4_isChute : GoodIn wsX4_induct (va_wsS RX4 57 yX4_isChute wsX4_isChute) := goodIn_app (goodIn_of _ (by decide +kernel)) ggX4_induct_X4_isChute
set_option maxRecDepth 20000 in
theorem ggX4_induct_X1_isRowFull : GoodIn wsX4_induct wsX1_isRowFull := goodIn_r _ [19, 20, 59, 60, 61, 62, 63] (by decide +kernel) (by decide +kernel)
set_option maxRecDepth 20000 in
theorem gX4_induct_X1_isRowFull : GoodIn wsX4_induct (wsV RX4 63 RX1 yX1_isRowFull wsX1_isRowFull) := goodIn_app (goodIn_of _ (by decide +kernel)) ggX4_induct_X1_isRowFull
set_option maxRecDepth 20000 in
theorem ggX4_induct_X2_init : GoodIn wsX4_induct wsX2_init := goodIn_r _ [23, 24, 25, 26, 27, 28, 29, 30, 31, 51, 52, 53, 54, 55, 56, 57, 58] (by decide +kernel) (by decide +kernel)
set_option maxRecDepth 20000 in
theorem gX4_induct_X2_init : GoodIn wsX4_induct (wsX2_init) := ggX4_induct_X2_init
set_option maxRecDepth 20000 in
theorem ggX4_induct_X1_addLast : GoodIn wsX4_induct wsX1_addLast := goodIn_r _ [35, 36, 20, 37, 16, 17, 18, 19, 59, 60, 61, 62, 63] (by decide +kernel) (by decide +kernel)
set_option maxRecDepth 20000 in
theorem gX4_induct_X1_addLast : GoodIn wsX4_induct (wsV RX4 70 RX1 yX1_addLast wsX1_addLast) := goodIn_app (goodIn_of _ (by decide +kernel)) ggX4_induct_X1_addLast
theorem dX4_induct_0 : decode cX4_induct 0 = .ok (.iload_n 1, 1) := by decide +kernel
theorem dX4_induct_1 : decode cX4_induct 1 = .ok (.invokestatic 53, 3) := by decide +kernel
theorem dX4_induct_4 : decode cX4_induct 4 = .ok (.ifCond .eq 10, 3) := by decide +kernel
theorem dX4_induct_7 : decode cX4_induct 7 = .ok (.iload_n 3, 1) := by decide +kernel
theorem dX4_induct_8 : decode cX4_induct 8 = .ok (.invokestatic 57, 3) := by decide +kernel
theorem dX4_induct_11 : decode cX4_induct 11 = .ok (.ifCond .ne 6, 3) := by decide +kernel
theorem dX4_induct_14 : decode cX4_induct 14 = .ok (.bipush (-11), 2) := by decide +kernel
theorem dX4_induct_16 : decode cX4_induct 16 = .ok (.ireturn, 1) := by decide +kernel
theorem dX4_induct_17 : decode cX4_induct 17 = .ok (.iload_n 2, 1) := by decide +kernel
theorem dX4_induct_18 : decode cX4_induct 18 = .ok (.iconst 1, 1) := by decide +kernel
theorem dX4_induct_19 : decode cX4_induct 19 = .ok (.if_icmp .lt 8, 3) := by decide +kernel
theorem dX4_induct_22 : decode cX4_induct 22 = .ok (.iload_n 2, 1) := by decide +kernel
theorem dX4_induct_23 : decode cX4_induct 23 = .ok (.iconst 2, 1) := by decide +kernel
theorem dX4_induct_24 : decode cX4_induct 24 = .ok (.if_icmp .le 6, 3) := by decide +kernel
theorem dX4_induct_27 : decode cX4_induct 27 = .ok (.bipush (-12), 2) := by decide +kernel
theorem dX4_induct_29 : decode cX4_induct 29 = .ok (.ireturn, 1) := by decide +kernel
theorem dX4_induct_30 : decode cX4_induct 30 = .ok (.aload_n 0, 1) := by decide +kernel
theorem dX4_induct_31 : decode cX4_induct 31 = .ok (.getfield 60, 3) := by decide +kernel
theorem dX4_induct_34 : decode cX4_induct 34 = .ok (.sipush 400, 3) := by decide +kernel
theorem dX4_induct_37 : decode cX4_induct 37 = .ok (.if_icmp .lt 6, 3) := by decide +kernel
theorem dX4_induct_40 : decode cX4_induct 40 = .ok (.bipush (-14), 2) := by decide +kernel
theorem dX4_induct_42 : decode cX4_induct 42 = .ok (.ireturn, 1) := by decide +kernel
theorem dX4_induct_43 : decode cX4_induct 43 = .ok (.aload_n 0, 1) := by decide +kernel
theorem dX4_induct_44 : decode cX4_induct 44 = .ok (.getfield 37, 3) := by decide +kernel
theorem dX4_induct_47 : decode cX4_induct 47 = .ok (.iload_n 1, 1) := by decide +kernel
theorem dX4_induct_48 : decode cX4_induct 48 = .ok (.aaload, 1) := by decide +kernel
theorem dX4_induct_49 : decode cX4_induct 49 = .ok (.invokevirtual 63, 3) := by decide +kernel
theorem dX4_induct_52 : decode cX4_induct 52 = .ok (.ifCond .eq 5, 3) := by decide +kernel
theorem dX4_induct_55 : decode cX4_induct 55 = .ok (.iconst 0, 1) := by decide +kernel
theorem dX4_induct_56 : decode cX4_induct 56 = .ok (.ireturn, 1) := by decide +kernel
theorem dX4_induct_57 : decode cX4_induct 57 = .ok (.new 20, 3) := by decide +kernel
theorem dX4_induct_60 : decode cX4_induct 60 = .ok (.dup, 1) := by decide +kernel
theorem dX4_induct_61 : decode cX4_induct 61 = .ok (.aload_n 0, 1) := by decide +kernel
theorem dX4_induct_62 : decode cX4_induct 62 = .ok (.getfield 60, 3) := by decide +kernel
theorem dX4_induct_65 : decode cX4_induct 65 = .ok (.iconst 1, 1) := by decide +kernel
theorem dX4_induct_66 : decode cX4_induct 66 = .ok (.iadd, 1) := by decide +kernel
theorem dX4_induct_67 : decode cX4_induct 67 = .ok (.iload_n 2, 1) := by decide +kernel
theorem dX4_induct_68 : decode cX4_induct 68 = .ok (.iload_n 3, 1) := by decide +kernel
theorem dX4_induct_69 : decode cX4_induct 69 = .ok (.invokespecial 67, 3) := by decide +kernel
theorem dX4_induct_72 : decode cX4_induct 72 = .ok (.astore 4, 2) := by decide +kernel
theorem dX4_induct_74 : decode cX4_induct 74 = .ok (.aload_n 0, 1) := by decide +kernel
theorem dX4_induct_75 : decode cX4_induct 75 = .ok (.getfield 26, 3) := by decide +kernel
theorem dX4_induct_78 : decode cX4_induct 78 = .ok (.aload_n 0, 1) := by decide +kernel
theorem dX4_induct_79 : decode cX4_induct 79 = .ok (.getfield 60, 3) := by decide +kernel
theorem dX4_induct_82 : decode cX4_induct 82 = .ok (.aload 4, 2) := by decide +kernel
theorem dX4_induct_84 : decode cX4_induct 84 = .ok (.aastore, 1) := by decide +kernel
theorem dX4_induct_85 : decode cX4_induct 85 = .ok (.aload_n 0, 1) := by decide +kernel
theorem dX4_induct_86 : decode cX4_induct 86 = .ok (.dup, 1) := by decide +kernel
theorem dX4_induct_87 : decode cX4_induct 87 = .ok (.getfield 60, 3) := by decide +kernel
theorem dX4_induct_90 : decode cX4_induct 90 = .ok (.iconst 1, 1) := by decide +kernel
theorem dX4_induct_91 : decode cX4_induct 91 = .ok (.iadd, 1) := by decide +kernel
theorem dX4_induct_92 : decode cX4_induct 92 = .ok (.putfield 60, 3) := by decide +kernel
theorem dX4_induct_95 : decode cX4_induct 95 = .ok (.aload_n 0, 1) := by decide +kernel
theorem dX4_induct_96 : decode cX4_induct 96 = .ok (.getfield 37, 3) := by decide +kernel
theorem dX4_induct_99 : decode cX4_induct 99 = .ok (.iload_n 1, 1) := by decide +kernel
theorem dX4_induct_100 : decode cX4_induct 100 = .ok (.aaload, 1) := by decide +kernel
theorem dX4_induct_101 : decode cX4_induct 101 = .ok (.aload 4, 2) := by decide +kernel
theorem dX4_induct_103 : decode cX4_induct 103 = .ok (.invokevirtual 70, 3) := by decide +kernel
theorem dX4_induct_106 : decode cX4_induct 106 = .ok (.aload 4, 2) := by decide +kernel
theorem dX4_induct_108 : decode cX4_induct 108 = .ok (.getfield 74, 3) := by decide +kernel
theorem dX4_induct_111 : decode cX4_induct 111 = .ok (.ireturn, 1) := by decide +kernel
set_option maxRecDepth 20000 in
theorem ggX4_step_X4_runOneStep : GoodIn wsX4_step wsX4_runOneStep := goodIn_r _ [6, 7, 8, 9, 10, 11, 12, 13, 14, 5, 15, 16, 17, 18, 19, 20, 21, 22, 23, 24, 25, 26, 27, 28, 29, 30, 31, 32, 33, 34, 35, 36, 37, 38, 39, 40, 41, 42, 43, 44, 45, 46, 47, 48, 49, 50, 51, 52, 53, 54, 55, 56, 1, 57, 58, 59, 60, 61, 62, 63, 64, 65, 66, 67, 68, 69, 70, 71, 72, 73, 74, 75, 76, 77, 78, 79, 80, 81, 82, 83, 84, 85, 86, 87, 88, 89, 90, 91, 92, 93, 94, 95, 96, 97, 98, 99, 100, 101, 102, 103, 104, 105, 106, 107, 108, 109, 110, 111, 112, 113, 114, 115, 116, 117, 118, 119, 120, 121, 122, 123, 124, 125, 126, 127, 128, 129, 130, 131] (by decide +kernel) (by decide +kernel)
set_option maxRecDepth 20000 in
theorem gX4_step_X4_runOneStep : GoodIn wsX4_step (wsV RX4 80 RX4 yX4_runOneStep wsX4_runOneStep) := goodIn_app (goodIn_of _ (by decide +kernel)) ggX4_step_X4_runOneStep
theorem dX4_step_0 : decode cX4_step 0 = .ok (.iload_n 1, 1) := by decide +kernel
theorem dX4_step_1 : decode cX4_step 1 = .ok (.ifCond .lt 10, 3) := by decide +kernel
theorem dX4_step_4 : decode cX4_step 4 = .ok (.iload_n 1, 1) := by decide +kernel
theorem dX4_step_5 : decode cX4_step 5 = .ok (.sipush 1000, 3) := by decide +kernel
theorem dX4_step_8 : decode cX4_step 8 = .ok (.if_icmp .le 6, 3) := by decide +kernel
theorem dX4_step_11 : decode cX4_step 11 = .ok (.bipush (-12), 2) := by decide +kernel
theorem dX4_step_13 : decode cX4_step 13 = .ok (.ireturn, 1) := by decide +kernel
theorem dX4_step_14 : decode cX4_step 14 = .ok (.aload_n 0, 1) := by decide +kernel
theorem dX4_step_15 : decode cX4_step 15 = .ok (.getfield 77, 3) := by decide +kernel
theorem dX4_step_18 : decode cX4_step 18 = .ok (.istore_n 2, 1) := by decide +kernel
theorem dX4_step_19 : decode cX4_step 19 = .ok (.iconst 0, 1) := by decide +kernel
theorem dX4_step_20 : decode cX4_step 20 = .ok (.istore_n 3, 1) := by decide +kernel
theorem dX4_step_21 : decode cX4_step 21 = .ok (.iload_n 3, 1) := by decide +kernel
theorem dX4_step_22 : decode cX4_step 22 = .ok (.iload_n 1, 1) := by decide +kernel
theorem dX4_step_23 : decode cX4_step 23 = .ok (.if_icmp .ge 13, 3) := by decide +kernel
theorem dX4_step_26 : decode cX4_step 26 = .ok (.aload_n 0, 1) := by decide +kernel
theorem dX4_step_27 : decode cX4_step 27 = .ok (.invokevirtual 80, 3) := by decide +kernel
theorem dX4_step_30 : decode cX4_step 30 = .ok (.iinc 3 1, 3) := by decide +kernel
theorem dX4_step_33 : decode cX4_step 33 = .ok (.goto (-12), 3) := by decide +kernel
theorem dX4_step_36 : decode cX4_step 36 = .ok (.aload_n 0, 1) := by decide +kernel
theorem dX4_step_37 : decode cX4_step 37 = .ok (.getfield 77, 3) := by decide +kernel
theorem dX4_step_40 : decode cX4_step 40 = .ok (.iload_n 2, 1) := by decide +kernel
theorem dX4_step_41 : decode cX4_step 41 = .ok (.isub, 1) := by decide +kernel
theorem dX4_step_42 : decode cX4_step 42 = .ok (.ireturn, 1) := by decide +kernel
set_option maxRecDepth 20000 in
theorem ggX4_out_X4_itemGoneAs : GoodIn wsX4_out wsX4_itemGoneAs := goodIn_r _ [9, 10, 11, 20, 21, 22, 23, 24, 25, 26, 27, 28, 29, 30, 31, 32] (by decide +kernel) (by decide +kernel)
set_option maxRecDepth 20000 in
theorem gX4_out_X4_itemGoneAs : GoodIn wsX4_out (wsV RX4 83 RX4 yX4_itemGoneAs wsX4_itemGoneAs) := goodIn_app (goodIn_of _ (by decide +kernel)) ggX4_out_X4_itemGoneAs
theorem dX4_out_0 : decode cX4_out 0 = .ok (.aload_n 0, 1) := by decide +kernel
theorem dX4_out_1 : decode cX4_out 1 = .ok (.iload_n 1, 1) := by decide +kernel
theorem dX4_out_2 : decode cX4_out 2 = .ok (.invokevirtual 83, 3) := by decide +kernel
theorem dX4_out_5 : decode cX4_out 5 = .ok (.astore_n 3, 1) := by decide +kernel
theorem dX4_out_6 : decode cX4_out 6 = .ok (.aload_n 3, 1) := by decide +kernel
theorem dX4_out_7 : decode cX4_out 7 = .ok (.ifnonnull 6, 3) := by decide +kernel
theorem dX4_out_10 : decode cX4_out 10 = .ok (.bipush (-11), 2) := by decide +kernel
theorem dX4_out_12 : decode cX4_out 12 = .ok (.ireturn, 1) := by decide +kernel
theorem dX4_out_13 : decode cX4_out 13 = .ok (.iload_n 2, 1) := by decide +kernel
theorem dX4_out_14 : decode cX4_out 14 = .ok (.tableswitch 50 0 3 #[30, 35, 40, 45], 30) := by decide +kernel
theorem dX4_out_44 : decode cX4_out 44 = .ok (.aload_n 3, 1) := by decide +kernel
theorem dX4_out_45 : decode cX4_out 45 = .ok (.getfield 74, 3) := by decide +kernel
theorem dX4_out_48 : decode cX4_out 48 = .ok (.ireturn, 1) := by decide +kernel
theorem dX4_out_49 : decode cX4_out 49 = .ok (.aload_n 3, 1) := by decide +kernel
theorem dX4_out_50 : decode cX4_out 50 = .ok (.getfield 87, 3) := by decide +kernel
theorem dX4_out_53 : decode cX4_out 53 = .ok (.ireturn, 1) := by decide +kernel
theorem dX4_out_54 : decode cX4_out 54 = .ok (.aload_n 3, 1) := by decide +kernel
theorem dX4_out_55 : decode cX4_out 55 = .ok (.getfield 90, 3) := by decide +kernel
theorem dX4_out_58 : decode cX4_out 58 = .ok (.ireturn, 1) := by decide +kernel
theorem dX4_out_59 : decode cX4_out 59 = .ok (.aload_n 3, 1) := by decide +kernel
theorem dX4_out_60 : decode cX4_out 60 = .ok (.getfield 93, 3) := by decide +kernel
theorem dX4_out_63 : decode cX4_out 63 = .ok (.ireturn, 1) := by decide +kernel
theorem dX4_out_64 : decode cX4_out 64 = .ok (.bipush (-12), 2) := by decide +kernel
theorem dX4_out_66 : decode cX4_out 66 = .ok (.ireturn, 1) := by decide +kernel
set_option maxRecDepth 20000 in
theorem ggX4_tray_X4_isTray : GoodIn wsX4_tray wsX4_isTray := goodIn_r _ [9, 10, 30, 31, 32, 33, 34, 35, 36, 37, 38, 39, 40, 41, 42] (by decide +kernel) (by decide +kernel)
set_option maxRecDepth 20000 in
theorem gX4_tray_X4_isTray : GoodIn wsX4_tray (wsV RX4 96 RX4 yX4_isTray wsX4_isTray) := goodIn_app (goodIn_of _ (by decide +kernel)) ggX4_tray_X4_isTray
set_option maxRecDepth 20000 in
theorem ggX4_tray_X4_itemOn : GoodIn wsX4_tray wsX4_itemOn := goodIn_r _ [14, 15, 5, 6, 7, 8, 9, 10, 30, 31, 32, 33, 34, 35, 36, 37, 38, 39, 40, 41, 42] (by decide +kernel) (by decide +kernel)
set_option maxRecDepth 20000 in
theorem gX4_tray_X4_itemOn : GoodIn wsX4_tray (wsV RX4 106 RX4 yX4_itemOn wsX4_itemOn) := goodIn_app (goodIn_of _ (by decide +kernel)) ggX4_tray_X4_itemOn
theorem dX4_tray_0 : decode cX4_tray 0 = .ok (.aload_n 0, 1) := by decide +kernel
theorem dX4_tray_1 : decode cX4_tray 1 = .ok (.iload_n 1, 1) := by decide +kernel
theorem dX4_tray_2 : decode cX4_tray 2 = .ok (.invokevirtual 96, 3) := by decide +kernel
theorem dX4_tray_5 : decode cX4_tray 5 = .ok (.ifCond .ne 13, 3) := by decide +kernel
theorem dX4_tray_8 : decode cX4_tray 8 = .ok (.new 99, 3) := by decide +kernel
theorem dX4_tray_11 : decode cX4_tray 11 = .ok (.dup, 1) := by decide +kernel
theorem dX4_tray_12 : decode cX4_tray 12 = .ok (.ldc 101, 2) := by decide +kernel
theorem dX4_tray_14 : decode cX4_tray 14 = .ok (.invokespecial 103, 3) := by decide +kernel
theorem dX4_tray_17 : decode cX4_tray 17 = .ok (.athrow, 1) := by decide +kernel
theorem dX4_tray_18 : decode cX4_tray 18 = .ok (.aload_n 0, 1) := by decide +kernel
theorem dX4_tray_19 : decode cX4_tray 19 = .ok (.iload_n 1, 1) := by decide +kernel
theorem dX4_tray_20 : decode cX4_tray 20 = .ok (.invokevirtual 106, 3) := by decide +kernel
theorem dX4_tray_23 : decode cX4_tray 23 = .ok (.astore_n 2, 1) := by decide +kernel
theorem dX4_tray_24 : decode cX4_tray 24 = .ok (.aload_n 2, 1) := by decide +kernel
theorem dX4_tray_25 : decode cX4_tray 25 = .ok (.ifnonnull 7, 3) := by decide +kernel
theorem dX4_tray_28 : decode cX4_tray 28 = .ok (.iconst 0, 1) := by decide +kernel
theorem dX4_tray_29 : decode cX4_tray 29 = .ok (.goto 7, 3) := by decide +kernel
theorem dX4_tray_32 : decode cX4_tray 32 = .ok (.aload_n 2, 1) := by decide +kernel
theorem dX4_tray_33 : decode cX4_tray 33 = .ok (.getfield 74, 3) := by decide +kernel
theorem dX4_tray_36 : decode cX4_tray 36 = .ok (.ireturn, 1) := by decide +kernel
set_option maxRecDepth 20000 in
theorem ggX4_full_X4_isChute : GoodIn wsX4_full wsX4_isChute := goodIn_r _ [6] (by decide +kernel) (by decide +kernel)
set_option maxRecDepth 20000 in
theorem gX4_full_X4_isChute : GoodIn wsX4_full (va_wsS RX4 57 yX4_isChute wsX4_isChute) := goodIn_app (goodIn_of _ (by decide +kernel)) ggX4_full_X4_isChute
set_option maxRecDepth 20000 in
theorem ggX4_full_X0_holdShut : GoodIn wsX4_full wsX0_holdShut := goodIn_r _ [11, 12, 31, 32, 33, 34] (by decide +kernel) (by decide +kernel)
set_option maxRecDepth 20000 in
theorem gX4_full_X0_holdShut : GoodIn wsX4_full (wsV RX4 112 RX0 yX0_holdShut wsX0_holdShut) := goodIn_app (goodIn_of _ (by decide +kernel)) ggX4_full_X0_holdShut
set_option maxRecDepth 20000 in
theorem ggX4_full_X0_empty : GoodIn wsX4_full wsX0_empty := goodIn_r _ [16, 12, 17, 31, 32, 33, 34] (by decide +kernel) (by decide +kernel)
set_option maxRecDepth 20000 in
theorem gX4_full_X0_empty : GoodIn wsX4_full (wsV RX4 115 RX0 yX0_empty wsX0_empty) := goodIn_app (goodIn_of _ (by decide +kernel)) ggX4_full_X0_empty
theorem dX4_full_0 : decode cX4_full 0 = .ok (.iload_n 1, 1) := by decide +kernel
theorem dX4_full_1 : decode cX4_full 1 = .ok (.invokestatic 57, 3) := by decide +kernel
theorem dX4_full_4 : decode cX4_full 4 = .ok (.ifCond .ne 6, 3) := by decide +kernel
theorem dX4_full_7 : decode cX4_full 7 = .ok (.bipush (-11), 2) := by decide +kernel
theorem dX4_full_9 : decode cX4_full 9 = .ok (.ireturn, 1) := by decide +kernel
theorem dX4_full_10 : decode cX4_full 10 = .ok (.iload_n 2, 1) := by decide +kernel
theorem dX4_full_11 : decode cX4_full 11 = .ok (.ifCond .eq 12, 3) := by decide +kernel
theorem dX4_full_14 : decode cX4_full 14 = .ok (.iload_n 1, 1) := by decide +kernel
theorem dX4_full_15 : decode cX4_full 15 = .ok (.bipush 15, 2) := by decide +kernel
theorem dX4_full_17 : decode cX4_full 17 = .ok (.if_icmp .ne 6, 3) := by decide +kernel
theorem dX4_full_20 : decode cX4_full 20 = .ok (.bipush (-13), 2) := by decide +kernel
theorem dX4_full_22 : decode cX4_full 22 = .ok (.ireturn, 1) := by decide +kernel
theorem dX4_full_23 : decode cX4_full 23 = .ok (.aload_n 0, 1) := by decide +kernel
theorem dX4_full_24 : decode cX4_full 24 = .ok (.getfield 46, 3) := by decide +kernel
theorem dX4_full_27 : decode cX4_full 27 = .ok (.iload_n 1, 1) := by decide +kernel
theorem dX4_full_28 : decode cX4_full 28 = .ok (.aaload, 1) := by decide +kernel
theorem dX4_full_29 : decode cX4_full 29 = .ok (.getfield 109, 3) := by decide +kernel
theorem dX4_full_32 : decode cX4_full 32 = .ok (.istore_n 3, 1) := by decide +kernel
theorem dX4_full_33 : decode cX4_full 33 = .ok (.iload_n 2, 1) := by decide +kernel
theorem dX4_full_34 : decode cX4_full 34 = .ok (.ifCond .eq 15, 3) := by decide +kernel
theorem dX4_full_37 : decode cX4_full 37 = .ok (.aload_n 0, 1) := by decide +kernel
theorem dX4_full_38 : decode cX4_full 38 = .ok (.getfield 46, 3) := by decide +kernel
theorem dX4_full_41 : decode cX4_full 41 = .ok (.iload_n 1, 1) := by decide +kernel
theorem dX4_full_42 : decode cX4_full 42 = .ok (.aaload, 1) := by decide +kernel
theorem dX4_full_43 : decode cX4_full 43 = .ok (.invokevirtual 112, 3) := by decide +kernel
theorem dX4_full_46 : decode cX4_full 46 = .ok (.goto 12, 3) := by decide +kernel
theorem dX4_full_49 : decode cX4_full 49 = .ok (.aload_n 0, 1) := by decide +kernel
theorem dX4_full_50 : decode cX4_full 50 = .ok (.getfield 46, 3) := by decide +kernel
theorem dX4_full_53 : decode cX4_full 53 = .ok (.iload_n 1, 1) := by decide +kernel
theorem dX4_full_54 : decode cX4_full 54 = .ok (.aaload, 1) := by decide +kernel
theorem dX4_full_55 : decode cX4_full 55 = .ok (.invokevirtual 115, 3) := by decide +kernel
theorem dX4_full_58 : decode cX4_full 58 = .ok (.iload_n 3, 1) := by decide +kernel
theorem dX4_full_59 : decode cX4_full 59 = .ok (.ireturn, 1) := by decide +kernel
set_option maxRecDepth 20000 in
theorem ggX4_missed_X4_itemNumbered : GoodIn wsX4_missed wsX4_itemNumbered := goodIn_r _ [9, 10, 11, 20, 21, 22, 23, 24, 25, 26, 27, 28, 29, 30, 31, 32] (by decide +kernel) (by decide +kernel)
set_option maxRecDepth 20000 in
theorem gX4_missed_X4_itemNumbered : GoodIn wsX4_missed (wsV RX4 118 RX4 yX4_itemNumbered wsX4_itemNumbered) := goodIn_app (goodIn_of _ (by decide +kernel)) ggX4_missed_X4_itemNumbered
theorem dX4_missed_0 : decode cX4_missed 0 = .ok (.aload_n 0, 1) := by decide +kernel
theorem dX4_missed_1 : decode cX4_missed 1 = .ok (.iload_n 1, 1) := by decide +kernel
theorem dX4_missed_2 : decode cX4_missed 2 = .ok (.invokevirtual 118, 3) := by decide +kernel
theorem dX4_missed_5 : decode cX4_missed 5 = .ok (.astore_n 2, 1) := by decide +kernel
theorem dX4_missed_6 : decode cX4_missed 6 = .ok (.aload_n 2, 1) := by decide +kernel
theorem dX4_missed_7 : decode cX4_missed 7 = .ok (.ifnonnull 6, 3) := by decide +kernel
theorem dX4_missed_10 : decode cX4_missed 10 = .ok (.bipush (-11), 2) := by decide +kernel
theorem dX4_missed_12 : decode cX4_missed 12 = .ok (.ireturn, 1) := by decide +kernel
theorem dX4_missed_13 : decode cX4_missed 13 = .ok (.aload_n 2, 1) := by decide +kernel
theorem dX4_missed_14 : decode cX4_missed 14 = .ok (.getfield 121, 3) := by decide +kernel
theorem dX4_missed_17 : decode cX4_missed 17 = .ok (.getstatic 125, 3) := by decide +kernel
theorem dX4_missed_20 : decode cX4_missed 20 = .ok (.if_acmp .eq 6, 3) := by decide +kernel
theorem dX4_missed_23 : decode cX4_missed 23 = .ok (.bipush (-13), 2) := by decide +kernel
theorem dX4_missed_25 : decode cX4_missed 25 = .ok (.ireturn, 1) := by decide +kernel
theorem dX4_missed_26 : decode cX4_missed 26 = .ok (.aload_n 2, 1) := by decide +kernel
theorem dX4_missed_27 : decode cX4_missed 27 = .ok (.getstatic 130, 3) := by decide +kernel
theorem dX4_missed_30 : decode cX4_missed 30 = .ok (.putfield 121, 3) := by decide +kernel
theorem dX4_missed_33 : decode cX4_missed 33 = .ok (.aload_n 2, 1) := by decide +kernel
theorem dX4_missed_34 : decode cX4_missed 34 = .ok (.getfield 133, 3) := by decide +kernel
theorem dX4_missed_37 : decode cX4_missed 37 = .ok (.ireturn, 1) := by decide +kernel
set_option maxRecDepth 20000 in
theorem ggX4_found_X4_itemNumbered : GoodIn wsX4_found wsX4_itemNumbered := goodIn_r _ [12, 13, 14, 34, 35, 36, 37, 38, 39, 40, 41, 42, 43, 44, 45, 46] (by decide +kernel) (by decide +kernel)
set_option maxRecDepth 20000 in
theorem gX4_found_X4_itemNumbered : GoodIn wsX4_found (wsV RX4 118 RX4 yX4_itemNumbered wsX4_itemNumbered) := goodIn_app (goodIn_of _ (by decide +kernel)) ggX4_found_X4_itemNumbered
set_option maxRecDepth 20000 in
theorem ggX4_found_X4_isTray : GoodIn wsX4_found wsX4_isTray := goodIn_r _ [18, 19, 34, 35, 36, 37, 38, 39, 40, 41, 42, 43, 44, 45, 46] (by decide +kernel) (by decide +kernel)
set_option maxRecDepth 20000 in
theorem gX4_found_X4_isTray : GoodIn wsX4_found (wsV RX4 96 RX4 yX4_isTray wsX4_isTray) := goodIn_app (goodIn_of _ (by decide +kernel)) ggX4_found_X4_isTray
theorem dX4_found_0 : decode cX4_found 0 = .ok (.aload_n 0, 1) := by decide +kernel
theorem dX4_found_1 : decode cX4_found 1 = .ok (.iload_n 1, 1) := by decide +kernel
theorem dX4_found_2 : decode cX4_found 2 = .ok (.invokevirtual 118, 3) := by decide +kernel
theorem dX4_found_5 : decode cX4_found 5 = .ok (.astore_n 3, 1) := by decide +kernel
theorem dX4_found_6 : decode cX4_found 6 = .ok (.aload_n 3, 1) := by decide +kernel
theorem dX4_found_7 : decode cX4_found 7 = .ok (.ifnonnull 6, 3) := by decide +kernel
theorem dX4_found_10 : decode cX4_found 10 = .ok (.bipush (-11), 2) := by decide +kernel
theorem dX4_found_12 : decode cX4_found 12 = .ok (.ireturn, 1) := by decide +kernel
theorem dX4_found_13 : decode cX4_found 13 = .ok (.aload_n 3, 1) := by decide +kernel
theorem dX4_found_14 : decode cX4_found 14 = .ok (.getfield 121, 3) := by decide +kernel
theorem dX4_found_17 : decode cX4_found 17 = .ok (.getstatic 130, 3) := by decide +kernel
theorem dX4_found_20 : decode cX4_found 20 = .ok (.if_acmp .eq 6, 3) := by decide +kernel
theorem dX4_found_23 : decode cX4_found 23 = .ok (.bipush (-13), 2) := by decide +kernel
theorem dX4_found_25 : decode cX4_found 25 = .ok (.ireturn, 1) := by decide +kernel
theorem dX4_found_26 : decode cX4_found 26 = .ok (.aload_n 0, 1) := by decide +kernel
theorem dX4_found_27 : decode cX4_found 27 = .ok (.iload_n 2, 1) := by decide +kernel
theorem dX4_found_28 : decode cX4_found 28 = .ok (.invokevirtual 96, 3) := by decide +kernel
theorem dX4_found_31 : decode cX4_found 31 = .ok (.ifCond .ne 13, 3) := by decide +kernel
theorem dX4_found_34 : decode cX4_found 34 = .ok (.new 99, 3) := by decide +kernel
theorem dX4_found_37 : decode cX4_found 37 = .ok (.dup, 1) := by decide +kernel
theorem dX4_found_38 : decode cX4_found 38 = .ok (.ldc 101, 2) := by decide +kernel
theorem dX4_found_40 : decode cX4_found 40 = .ok (.invokespecial 103, 3) := by decide +kernel
theorem dX4_found_43 : decode cX4_found 43 = .ok (.athrow, 1) := by decide +kernel
theorem dX4_found_44 : decode cX4_found 44 = .ok (.aload_n 3, 1) := by decide +kernel
theorem dX4_found_45 : decode cX4_found 45 = .ok (.getfield 133, 3) := by decide +kernel
theorem dX4_found_48 : decode cX4_found 48 = .ok (.iload_n 2, 1) := by decide +kernel
theorem dX4_found_49 : decode cX4_found 49 = .ok (.if_icmp .eq 5, 3) := by decide +kernel
theorem dX4_found_52 : decode cX4_found 52 = .ok (.iconst 0, 1) := by decide +kernel
theorem dX4_found_53 : decode cX4_found 53 = .ok (.ireturn, 1) := by decide +kernel
theorem dX4_found_54 : decode cX4_found 54 = .ok (.aload_n 3, 1) := by decide +kernel
theorem dX4_found_55 : decode cX4_found 55 = .ok (.getstatic 125, 3) := by decide +kernel
theorem dX4_found_58 : decode cX4_found 58 = .ok (.putfield 121, 3) := by decide +kernel
theorem dX4_found_61 : decode cX4_found 61 = .ok (.iconst 1, 1) := by decide +kernel
theorem dX4_found_62 : decode cX4_found 62 = .ok (.ireturn, 1) := by decide +kernel
theorem dX4_speed_0 : decode cX4_speed 0 = .ok (.iload_n 1, 1) := by decide +kernel
theorem dX4_speed_1 : decode cX4_speed 1 = .ok (.iconst 1, 1) := by decide +kernel
theorem dX4_speed_2 : decode cX4_speed 2 = .ok (.if_icmp .lt 8, 3) := by decide +kernel
theorem dX4_speed_5 : decode cX4_speed 5 = .ok (.iload_n 1, 1) := by decide +kernel
theorem dX4_speed_6 : decode cX4_speed 6 = .ok (.iconst 5, 1) := by decide +kernel
theorem dX4_speed_7 : decode cX4_speed 7 = .ok (.if_icmp .le 6, 3) := by decide +kernel
theorem dX4_speed_10 : decode cX4_speed 10 = .ok (.bipush (-12), 2) := by decide +kernel
theorem dX4_speed_12 : decode cX4_speed 12 = .ok (.ireturn, 1) := by decide +kernel
theorem dX4_speed_13 : decode cX4_speed 13 = .ok (.aload_n 0, 1) := by decide +kernel
theorem dX4_speed_14 : decode cX4_speed 14 = .ok (.getfield 32, 3) := by decide +kernel
theorem dX4_speed_17 : decode cX4_speed 17 = .ok (.istore_n 2, 1) := by decide +kernel
theorem dX4_speed_18 : decode cX4_speed 18 = .ok (.aload_n 0, 1) := by decide +kernel
theorem dX4_speed_19 : decode cX4_speed 19 = .ok (.iload_n 1, 1) := by decide +kernel
theorem dX4_speed_20 : decode cX4_speed 20 = .ok (.putfield 32, 3) := by decide +kernel
theorem dX4_speed_23 : decode cX4_speed 23 = .ok (.iload_n 2, 1) := by decide +kernel
theorem dX4_speed_24 : decode cX4_speed 24 = .ok (.ireturn, 1) := by decide +kernel
set_option maxRecDepth 20000 in
theorem ggX4_share_X4_isInduct : GoodIn wsX4_share wsX4_isInduct := goodIn_r _ [7] (by decide +kernel) (by decide +kernel)
set_option maxRecDepth 20000 in
theorem gX4_share_X4_isInduct : GoodIn wsX4_share (va_wsS RX4 53 yX4_isInduct wsX4_isInduct) := goodIn_app (goodIn_of _ (by decide +kernel)) ggX4_share_X4_isInduct
theorem dX4_share_0 : decode cX4_share 0 = .ok (.iload_n 1, 1) := by decide +kernel
theorem dX4_share_1 : decode cX4_share 1 = .ok (.invokestatic 53, 3) := by decide +kernel
theorem dX4_share_4 : decode cX4_share 4 = .ok (.ifCond .eq 15, 3) := by decide +kernel
theorem dX4_share_7 : decode cX4_share 7 = .ok (.aload_n 0, 1) := by decide +kernel
theorem dX4_share_8 : decode cX4_share 8 = .ok (.getfield 37, 3) := by decide +kernel
theorem dX4_share_11 : decode cX4_share 11 = .ok (.iload_n 1, 1) := by decide +kernel
theorem dX4_share_12 : decode cX4_share 12 = .ok (.aaload, 1) := by decide +kernel
theorem dX4_share_13 : decode cX4_share 13 = .ok (.getfield 136, 3) := by decide +kernel
theorem dX4_share_16 : decode cX4_share 16 = .ok (.goto 6, 3) := by decide +kernel
theorem dX4_share_19 : decode cX4_share 19 = .ok (.ldc2_w 140, 3) := by decide +kernel
theorem dX4_share_22 : decode cX4_share 22 = .ok (.lreturn, 1) := by decide +kernel
set_option maxRecDepth 20000 in
theorem ggX4_round_X4_itemNumbered : GoodIn wsX4_round wsX4_itemNumbered := goodIn_r _ [6, 7, 8, 17, 18, 19, 20, 21, 22, 23, 24, 25, 26, 27, 28, 29] (by decide +kernel) (by decide +kernel)
set_option maxRecDepth 20000 in
theorem gX4_round_X4_itemNumbered : GoodIn wsX4_round (wsV RX4 118 RX4 yX4_itemNumbered wsX4_itemNumbered) := goodIn_app (goodIn_of _ (by decide +kernel)) ggX4_round_X4_itemNumbered
theorem dX4_round_0 : decode cX4_round 0 = .ok (.aload_n 0, 1) := by decide +kernel
theorem dX4_round_1 : decode cX4_round 1 = .ok (.iload_n 1, 1) := by decide +kernel
theorem dX4_round_2 : decode cX4_round 2 = .ok (.invokevirtual 118, 3) := by decide +kernel
theorem dX4_round_5 : decode cX4_round 5 = .ok (.astore_n 2, 1) := by decide +kernel
theorem dX4_round_6 : decode cX4_round 6 = .ok (.aload_n 2, 1) := by decide +kernel
theorem dX4_round_7 : decode cX4_round 7 = .ok (.ifnonnull 8, 3) := by decide +kernel
theorem dX4_round_10 : decode cX4_round 10 = .ok (.bipush (-11), 2) := by decide +kernel
theorem dX4_round_12 : decode cX4_round 12 = .ok (.goto 7, 3) := by decide +kernel
theorem dX4_round_15 : decode cX4_round 15 = .ok (.aload_n 2, 1) := by decide +kernel
theorem dX4_round_16 : decode cX4_round 16 = .ok (.getfield 93, 3) := by decide +kernel
theorem dX4_round_19 : decode cX4_round 19 = .ok (.ireturn, 1) := by decide +kernel
theorem dX4_bringWithin_0 : decode cX4_bringWithin 0 = .ok (.iconst 1, 1) := by decide +kernel
theorem dX4_bringWithin_1 : decode cX4_bringWithin 1 = .ok (.iload_n 1, 1) := by decide +kernel
theorem dX4_bringWithin_2 : decode cX4_bringWithin 2 = .ok (.iload_n 0, 1) := by decide +kernel
theorem dX4_bringWithin_3 : decode cX4_bringWithin 3 = .ok (.invokestatic 142, 3) := by decide +kernel
theorem dX4_bringWithin_6 : decode cX4_bringWithin 6 = .ok (.invokestatic 147, 3) := by decide +kernel
theorem dX4_bringWithin_9 : decode cX4_bringWithin 9 = .ok (.ireturn, 1) := by decide +kernel
theorem dX4_isInduct_0 : decode cX4_isInduct 0 = .ok (.iload_n 0, 1) := by decide +kernel
theorem dX4_isInduct_1 : decode cX4_isInduct 1 = .ok (.ifCond .lt 12, 3) := by decide +kernel
theorem dX4_isInduct_4 : decode cX4_isInduct 4 = .ok (.iload_n 0, 1) := by decide +kernel
theorem dX4_isInduct_5 : decode cX4_isInduct 5 = .ok (.iconst 4, 1) := by decide +kernel
theorem dX4_isInduct_6 : decode cX4_isInduct 6 = .ok (.if_icmp .ge 7, 3) := by decide +kernel
theorem dX4_isInduct_9 : decode cX4_isInduct 9 = .ok (.iconst 1, 1) := by decide +kernel
theorem dX4_isInduct_10 : decode cX4_isInduct 10 = .ok (.goto 4, 3) := by decide +kernel
theorem dX4_isInduct_13 : decode cX4_isInduct 13 = .ok (.iconst 0, 1) := by decide +kernel
theorem dX4_isInduct_14 : decode cX4_isInduct 14 = .ok (.ireturn, 1) := by decide +kernel
theorem dX4_isChute_0 : decode cX4_isChute 0 = .ok (.iload_n 0, 1) := by decide +kernel
theorem dX4_isChute_1 : decode cX4_isChute 1 = .ok (.ifCond .lt 13, 3) := by decide +kernel
theorem dX4_isChute_4 : decode cX4_isChute 4 = .ok (.iload_n 0, 1) := by decide +kernel
theorem dX4_isChute_5 : decode cX4_isChute 5 = .ok (.bipush 16, 2) := by decide +kernel
theorem dX4_isChute_7 : decode cX4_isChute 7 = .ok (.if_icmp .ge 7, 3) := by decide +kernel
theorem dX4_isChute_10 : decode cX4_isChute 10 = .ok (.iconst 1, 1) := by decide +kernel
theorem dX4_isChute_11 : decode cX4_isChute 11 = .ok (.goto 4, 3) := by decide +kernel
theorem dX4_isChute_14 : decode cX4_isChute 14 = .ok (.iconst 0, 1) := by decide +kernel
theorem dX4_isChute_15 : decode cX4_isChute 15 = .ok (.ireturn, 1) := by decide +kernel
theorem dX4_isTray_0 : decode cX4_isTray 0 = .ok (.iload_n 1, 1) := by decide +kernel
theorem dX4_isTray_1 : decode cX4_isTray 1 = .ok (.ifCond .lt 15, 3) := by decide +kernel
theorem dX4_isTray_4 : decode cX4_isTray 4 = .ok (.iload_n 1, 1) := by decide +kernel
theorem dX4_isTray_5 : decode cX4_isTray 5 = .ok (.aload_n 0, 1) := by decide +kernel
theorem dX4_isTray_6 : decode cX4_isTray 6 = .ok (.getfield 13, 3) := by decide +kernel
theorem dX4_isTray_9 : decode cX4_isTray 9 = .ok (.if_icmp .ge 7, 3) := by decide +kernel
theorem dX4_isTray_12 : decode cX4_isTray 12 = .ok (.iconst 1, 1) := by decide +kernel
theorem dX4_isTray_13 : decode cX4_isTray 13 = .ok (.goto 4, 3) := by decide +kernel
theorem dX4_isTray_16 : decode cX4_isTray 16 = .ok (.iconst 0, 1) := by decide +kernel
theorem dX4_isTray_17 : decode cX4_isTray 17 = .ok (.ireturn, 1) := by decide +kernel
theorem dX4_itemNumbered_0 : decode cX4_itemNumbered 0 = .ok (.iload_n 1, 1) := by decide +kernel
theorem dX4_itemNumbered_1 : decode cX4_itemNumbered 1 = .ok (.iconst 1, 1) := by decide +kernel
theorem dX4_itemNumbered_2 : decode cX4_itemNumbered 2 = .ok (.if_icmp .lt 11, 3) := by decide +kernel
theorem dX4_itemNumbered_5 : decode cX4_itemNumbered 5 = .ok (.iload_n 1, 1) := by decide +kernel
theorem dX4_itemNumbered_6 : decode cX4_itemNumbered 6 = .ok (.aload_n 0, 1) := by decide +kernel
theorem dX4_itemNumbered_7 : decode cX4_itemNumbered 7 = .ok (.getfield 60, 3) := by decide +kernel
theorem dX4_itemNumbered_10 : decode cX4_itemNumbered 10 = .ok (.if_icmp .le 7, 3) := by decide +kernel
theorem dX4_itemNumbered_13 : decode cX4_itemNumbered 13 = .ok (.aconst_null, 1) := by decide +kernel
theorem dX4_itemNumbered_14 : decode cX4_itemNumbered 14 = .ok (.goto 11, 3) := by decide +kernel
theorem dX4_itemNumbered_17 : decode cX4_itemNumbered 17 = .ok (.aload_n 0, 1) := by decide +kernel
theorem dX4_itemNumbered_18 : decode cX4_itemNumbered 18 = .ok (.getfield 26, 3) := by decide +kernel
theorem dX4_itemNumbered_21 : decode cX4_itemNumbered 21 = .ok (.iload_n 1, 1) := by decide +kernel
theorem dX4_itemNumbered_22 : decode cX4_itemNumbered 22 = .ok (.iconst 1, 1) := by decide +kernel
theorem dX4_itemNumbered_23 : decode cX4_itemNumbered 23 = .ok (.isub, 1) := by decide +kernel
theorem dX4_itemNumbered_24 : decode cX4_itemNumbered 24 = .ok (.aaload, 1) := by decide +kernel
theorem dX4_itemNumbered_25 : decode cX4_itemNumbered 25 = .ok (.areturn, 1) := by decide +kernel
theorem dX4_itemGoneAs_0 : decode cX4_itemGoneAs 0 = .ok (.iload_n 1, 1) := by decide +kernel
theorem dX4_itemGoneAs_1 : decode cX4_itemGoneAs 1 = .ok (.ifCond .lt 11, 3) := by decide +kernel
theorem dX4_itemGoneAs_4 : decode cX4_itemGoneAs 4 = .ok (.iload_n 1, 1) := by decide +kernel
theorem dX4_itemGoneAs_5 : decode cX4_itemGoneAs 5 = .ok (.aload_n 0, 1) := by decide +kernel
theorem dX4_itemGoneAs_6 : decode cX4_itemGoneAs 6 = .ok (.getfield 77, 3) := by decide +kernel
theorem dX4_itemGoneAs_9 : decode cX4_itemGoneAs 9 = .ok (.if_icmp .lt 7, 3) := by decide +kernel
theorem dX4_itemGoneAs_12 : decode cX4_itemGoneAs 12 = .ok (.aconst_null, 1) := by decide +kernel
theorem dX4_itemGoneAs_13 : decode cX4_itemGoneAs 13 = .ok (.goto 9, 3) := by decide +kernel
theorem dX4_itemGoneAs_16 : decode cX4_itemGoneAs 16 = .ok (.aload_n 0, 1) := by decide +kernel
theorem dX4_itemGoneAs_17 : decode cX4_itemGoneAs 17 = .ok (.getfield 29, 3) := by decide +kernel
theorem dX4_itemGoneAs_20 : decode cX4_itemGoneAs 20 = .ok (.iload_n 1, 1) := by decide +kernel
theorem dX4_itemGoneAs_21 : decode cX4_itemGoneAs 21 = .ok (.aaload, 1) := by decide +kernel
theorem dX4_itemGoneAs_22 : decode cX4_itemGoneAs 22 = .ok (.areturn, 1) := by decide +kernel
set_option maxRecDepth 20000 in
theorem ggX4_itemOn_X4_isTray : GoodIn wsX4_itemOn wsX4_isTray := goodIn_r _ [6, 7, 8, 9, 10, 11, 12, 13, 14, 15, 16, 17, 18, 19, 20] (by decide +kernel) (by decide +kernel)
set_option maxRecDepth 20000 in
theorem gX4_itemOn_X4_isTray : GoodIn wsX4_itemOn (wsV RX4 96 RX4 yX4_isTray wsX4_isTray) := goodIn_app (goodIn_of _ (by decide +kernel)) ggX4_itemOn_X4_isTray
theorem dX4_itemOn_0 : decode cX4_itemOn 0 = .ok (.aload_n 0, 1) := by decide +kernel
theorem dX4_itemOn_1 : decode cX4_itemOn 1 = .ok (.iload_n 1, 1) := by decide +kernel
theorem dX4_itemOn_2 : decode cX4_itemOn 2 = .ok (.invokevirtual 96, 3) := by decide +kernel
