theorem dX5_induct_36 : decode cX5_induct 36 = .ok (.bipush (-12), 2) := by decide +kernel
theorem dX5_induct_38 : decode cX5_induct 38 = .ok (.ireturn, 1) := by decide +kernel
theorem dX5_induct_39 : decode cX5_induct 39 = .ok (.aload_n 0, 1) := by decide +kernel
theorem dX5_induct_40 : decode cX5_induct 40 = .ok (.getfield 70, 3) := by decide +kernel
theorem dX5_induct_43 : decode cX5_induct 43 = .ok (.sipush 400, 3) := by decide +kernel
theorem dX5_induct_46 : decode cX5_induct 46 = .ok (.if_icmp .ne 6, 3) := by decide +kernel
theorem dX5_induct_49 : decode cX5_induct 49 = .ok (.bipush (-14), 2) := by decide +kernel
theorem dX5_induct_51 : decode cX5_induct 51 = .ok (.ireturn, 1) := by decide +kernel
theorem dX5_induct_52 : decode cX5_induct 52 = .ok (.aload_n 0, 1) := by decide +kernel
theorem dX5_induct_53 : decode cX5_induct 53 = .ok (.iload_n 1, 1) := by decide +kernel
theorem dX5_induct_54 : decode cX5_induct 54 = .ok (.invokevirtual 77, 3) := by decide +kernel
theorem dX5_induct_57 : decode cX5_induct 57 = .ok (.bipush 8, 2) := by decide +kernel
theorem dX5_induct_59 : decode cX5_induct 59 = .ok (.if_icmp .ne 5, 3) := by decide +kernel
theorem dX5_induct_62 : decode cX5_induct 62 = .ok (.iconst 0, 1) := by decide +kernel
theorem dX5_induct_63 : decode cX5_induct 63 = .ok (.ireturn, 1) := by decide +kernel
theorem dX5_induct_64 : decode cX5_induct 64 = .ok (.aload_n 0, 1) := by decide +kernel
theorem dX5_induct_65 : decode cX5_induct 65 = .ok (.dup, 1) := by decide +kernel
theorem dX5_induct_66 : decode cX5_induct 66 = .ok (.getfield 70, 3) := by decide +kernel
theorem dX5_induct_69 : decode cX5_induct 69 = .ok (.iconst 1, 1) := by decide +kernel
theorem dX5_induct_70 : decode cX5_induct 70 = .ok (.iadd, 1) := by decide +kernel
theorem dX5_induct_71 : decode cX5_induct 71 = .ok (.putfield 70, 3) := by decide +kernel
theorem dX5_induct_74 : decode cX5_induct 74 = .ok (.aload_n 0, 1) := by decide +kernel
theorem dX5_induct_75 : decode cX5_induct 75 = .ok (.getfield 35, 3) := by decide +kernel
theorem dX5_induct_78 : decode cX5_induct 78 = .ok (.aload_n 0, 1) := by decide +kernel
theorem dX5_induct_79 : decode cX5_induct 79 = .ok (.getfield 70, 3) := by decide +kernel
theorem dX5_induct_82 : decode cX5_induct 82 = .ok (.iload_n 1, 1) := by decide +kernel
theorem dX5_induct_83 : decode cX5_induct 83 = .ok (.iastore, 1) := by decide +kernel
theorem dX5_induct_84 : decode cX5_induct 84 = .ok (.aload_n 0, 1) := by decide +kernel
theorem dX5_induct_85 : decode cX5_induct 85 = .ok (.getfield 20, 3) := by decide +kernel
theorem dX5_induct_88 : decode cX5_induct 88 = .ok (.aload_n 0, 1) := by decide +kernel
theorem dX5_induct_89 : decode cX5_induct 89 = .ok (.getfield 70, 3) := by decide +kernel
theorem dX5_induct_92 : decode cX5_induct 92 = .ok (.iload_n 2, 1) := by decide +kernel
theorem dX5_induct_93 : decode cX5_induct 93 = .ok (.iastore, 1) := by decide +kernel
theorem dX5_induct_94 : decode cX5_induct 94 = .ok (.aload_n 0, 1) := by decide +kernel
theorem dX5_induct_95 : decode cX5_induct 95 = .ok (.getfield 23, 3) := by decide +kernel
theorem dX5_induct_98 : decode cX5_induct 98 = .ok (.aload_n 0, 1) := by decide +kernel
theorem dX5_induct_99 : decode cX5_induct 99 = .ok (.getfield 70, 3) := by decide +kernel
theorem dX5_induct_102 : decode cX5_induct 102 = .ok (.iload_n 3, 1) := by decide +kernel
theorem dX5_induct_103 : decode cX5_induct 103 = .ok (.iastore, 1) := by decide +kernel
theorem dX5_induct_104 : decode cX5_induct 104 = .ok (.aload_n 0, 1) := by decide +kernel
theorem dX5_induct_105 : decode cX5_induct 105 = .ok (.getfield 70, 3) := by decide +kernel
theorem dX5_induct_108 : decode cX5_induct 108 = .ok (.ireturn, 1) := by decide +kernel
theorem dX5_move_0 : decode cX5_move 0 = .ok (.aload_n 0, 1) := by decide +kernel
theorem dX5_move_1 : decode cX5_move 1 = .ok (.getfield 7, 3) := by decide +kernel
theorem dX5_move_4 : decode cX5_move 4 = .ok (.aload_n 0, 1) := by decide +kernel
theorem dX5_move_5 : decode cX5_move 5 = .ok (.getfield 61, 3) := by decide +kernel
theorem dX5_move_8 : decode cX5_move 8 = .ok (.iconst 1, 1) := by decide +kernel
theorem dX5_move_9 : decode cX5_move 9 = .ok (.isub, 1) := by decide +kernel
theorem dX5_move_10 : decode cX5_move 10 = .ok (.iaload, 1) := by decide +kernel
theorem dX5_move_11 : decode cX5_move 11 = .ok (.istore_n 1, 1) := by decide +kernel
theorem dX5_move_12 : decode cX5_move 12 = .ok (.aload_n 0, 1) := by decide +kernel
theorem dX5_move_13 : decode cX5_move 13 = .ok (.getfield 13, 3) := by decide +kernel
theorem dX5_move_16 : decode cX5_move 16 = .ok (.aload_n 0, 1) := by decide +kernel
theorem dX5_move_17 : decode cX5_move 17 = .ok (.getfield 61, 3) := by decide +kernel
theorem dX5_move_20 : decode cX5_move 20 = .ok (.iconst 1, 1) := by decide +kernel
theorem dX5_move_21 : decode cX5_move 21 = .ok (.isub, 1) := by decide +kernel
theorem dX5_move_22 : decode cX5_move 22 = .ok (.iaload, 1) := by decide +kernel
theorem dX5_move_23 : decode cX5_move 23 = .ok (.istore_n 2, 1) := by decide +kernel
theorem dX5_move_24 : decode cX5_move 24 = .ok (.aload_n 0, 1) := by decide +kernel
theorem dX5_move_25 : decode cX5_move 25 = .ok (.getfield 61, 3) := by decide +kernel
theorem dX5_move_28 : decode cX5_move 28 = .ok (.iconst 1, 1) := by decide +kernel
theorem dX5_move_29 : decode cX5_move 29 = .ok (.isub, 1) := by decide +kernel
theorem dX5_move_30 : decode cX5_move 30 = .ok (.istore_n 3, 1) := by decide +kernel
theorem dX5_move_31 : decode cX5_move 31 = .ok (.iload_n 3, 1) := by decide +kernel
theorem dX5_move_32 : decode cX5_move 32 = .ok (.ifCond .le 37, 3) := by decide +kernel
theorem dX5_move_35 : decode cX5_move 35 = .ok (.aload_n 0, 1) := by decide +kernel
theorem dX5_move_36 : decode cX5_move 36 = .ok (.getfield 7, 3) := by decide +kernel
theorem dX5_move_39 : decode cX5_move 39 = .ok (.iload_n 3, 1) := by decide +kernel
theorem dX5_move_40 : decode cX5_move 40 = .ok (.aload_n 0, 1) := by decide +kernel
theorem dX5_move_41 : decode cX5_move 41 = .ok (.getfield 7, 3) := by decide +kernel
theorem dX5_move_44 : decode cX5_move 44 = .ok (.iload_n 3, 1) := by decide +kernel
theorem dX5_move_45 : decode cX5_move 45 = .ok (.iconst 1, 1) := by decide +kernel
theorem dX5_move_46 : decode cX5_move 46 = .ok (.isub, 1) := by decide +kernel
theorem dX5_move_47 : decode cX5_move 47 = .ok (.iaload, 1) := by decide +kernel
theorem dX5_move_48 : decode cX5_move 48 = .ok (.iastore, 1) := by decide +kernel
theorem dX5_move_49 : decode cX5_move 49 = .ok (.aload_n 0, 1) := by decide +kernel
theorem dX5_move_50 : decode cX5_move 50 = .ok (.getfield 13, 3) := by decide +kernel
theorem dX5_move_53 : decode cX5_move 53 = .ok (.iload_n 3, 1) := by decide +kernel
theorem dX5_move_54 : decode cX5_move 54 = .ok (.aload_n 0, 1) := by decide +kernel
theorem dX5_move_55 : decode cX5_move 55 = .ok (.getfield 13, 3) := by decide +kernel
theorem dX5_move_58 : decode cX5_move 58 = .ok (.iload_n 3, 1) := by decide +kernel
theorem dX5_move_59 : decode cX5_move 59 = .ok (.iconst 1, 1) := by decide +kernel
theorem dX5_move_60 : decode cX5_move 60 = .ok (.isub, 1) := by decide +kernel
theorem dX5_move_61 : decode cX5_move 61 = .ok (.iaload, 1) := by decide +kernel
theorem dX5_move_62 : decode cX5_move 62 = .ok (.iastore, 1) := by decide +kernel
theorem dX5_move_63 : decode cX5_move 63 = .ok (.iinc 3 (-1), 3) := by decide +kernel
theorem dX5_move_66 : decode cX5_move 66 = .ok (.goto (-35), 3) := by decide +kernel
theorem dX5_move_69 : decode cX5_move 69 = .ok (.aload_n 0, 1) := by decide +kernel
theorem dX5_move_70 : decode cX5_move 70 = .ok (.getfield 7, 3) := by decide +kernel
theorem dX5_move_73 : decode cX5_move 73 = .ok (.iconst 0, 1) := by decide +kernel
theorem dX5_move_74 : decode cX5_move 74 = .ok (.iload_n 1, 1) := by decide +kernel
theorem dX5_move_75 : decode cX5_move 75 = .ok (.iastore, 1) := by decide +kernel
theorem dX5_move_76 : decode cX5_move 76 = .ok (.aload_n 0, 1) := by decide +kernel
theorem dX5_move_77 : decode cX5_move 77 = .ok (.getfield 13, 3) := by decide +kernel
theorem dX5_move_80 : decode cX5_move 80 = .ok (.iconst 0, 1) := by decide +kernel
theorem dX5_move_81 : decode cX5_move 81 = .ok (.iload_n 2, 1) := by decide +kernel
theorem dX5_move_82 : decode cX5_move 82 = .ok (.iastore, 1) := by decide +kernel
theorem dX5_move_83 : decode cX5_move 83 = .ok (.return_, 1) := by decide +kernel
theorem dX5_before_0 : decode cX5_before 0 = .ok (.iload_n 1, 1) := by decide +kernel
theorem dX5_before_1 : decode cX5_before 1 = .ok (.ifCond .ne 12, 3) := by decide +kernel
theorem dX5_before_4 : decode cX5_before 4 = .ok (.aload_n 0, 1) := by decide +kernel
theorem dX5_before_5 : decode cX5_before 5 = .ok (.getfield 61, 3) := by decide +kernel
theorem dX5_before_8 : decode cX5_before 8 = .ok (.iconst 1, 1) := by decide +kernel
theorem dX5_before_9 : decode cX5_before 9 = .ok (.isub, 1) := by decide +kernel
theorem dX5_before_10 : decode cX5_before 10 = .ok (.goto 6, 3) := by decide +kernel
theorem dX5_before_13 : decode cX5_before 13 = .ok (.iload_n 1, 1) := by decide +kernel
theorem dX5_before_14 : decode cX5_before 14 = .ok (.iconst 1, 1) := by decide +kernel
theorem dX5_before_15 : decode cX5_before 15 = .ok (.isub, 1) := by decide +kernel
theorem dX5_before_16 : decode cX5_before 16 = .ok (.ireturn, 1) := by decide +kernel
theorem dX5_hasRoom_0 : decode cX5_hasRoom 0 = .ok (.iload_n 1, 1) := by decide +kernel
theorem dX5_hasRoom_1 : decode cX5_hasRoom 1 = .ok (.bipush 15, 2) := by decide +kernel
theorem dX5_hasRoom_3 : decode cX5_hasRoom 3 = .ok (.if_icmp .eq 23, 3) := by decide +kernel
theorem dX5_hasRoom_6 : decode cX5_hasRoom 6 = .ok (.aload_n 0, 1) := by decide +kernel
theorem dX5_hasRoom_7 : decode cX5_hasRoom 7 = .ok (.getfield 45, 3) := by decide +kernel
theorem dX5_hasRoom_10 : decode cX5_hasRoom 10 = .ok (.iload_n 1, 1) := by decide +kernel
theorem dX5_hasRoom_11 : decode cX5_hasRoom 11 = .ok (.baload, 1) := by decide +kernel
theorem dX5_hasRoom_12 : decode cX5_hasRoom 12 = .ok (.ifCond .ne 18, 3) := by decide +kernel
theorem dX5_hasRoom_15 : decode cX5_hasRoom 15 = .ok (.aload_n 0, 1) := by decide +kernel
theorem dX5_hasRoom_16 : decode cX5_hasRoom 16 = .ok (.getfield 42, 3) := by decide +kernel
theorem dX5_hasRoom_19 : decode cX5_hasRoom 19 = .ok (.iload_n 1, 1) := by decide +kernel
theorem dX5_hasRoom_20 : decode cX5_hasRoom 20 = .ok (.iaload, 1) := by decide +kernel
theorem dX5_hasRoom_21 : decode cX5_hasRoom 21 = .ok (.bipush 10, 2) := by decide +kernel
theorem dX5_hasRoom_23 : decode cX5_hasRoom 23 = .ok (.if_icmp .ge 7, 3) := by decide +kernel
theorem dX5_hasRoom_26 : decode cX5_hasRoom 26 = .ok (.iconst 1, 1) := by decide +kernel
theorem dX5_hasRoom_27 : decode cX5_hasRoom 27 = .ok (.goto 4, 3) := by decide +kernel
theorem dX5_hasRoom_30 : decode cX5_hasRoom 30 = .ok (.iconst 0, 1) := by decide +kernel
theorem dX5_hasRoom_31 : decode cX5_hasRoom 31 = .ok (.ireturn, 1) := by decide +kernel
set_option maxRecDepth 20000 in
theorem ggX5_goOut_X5_before : GoodIn wsX5_goOut wsX5_before := goodIn_r _ [14, 15, 16, 17, 18, 19, 20, 21, 22, 23, 24, 25, 26, 27, 28, 29, 30, 31, 32, 33, 34, 35, 36, 37] (by decide +kernel) (by decide +kernel)
set_option maxRecDepth 20000 in
theorem gX5_goOut_X5_before : GoodIn wsX5_goOut (wsV RX5 81 RX5 yX5_before wsX5_before) := goodIn_app (goodIn_of _ (by decide +kernel)) ggX5_goOut_X5_before
theorem dX5_goOut_0 : decode cX5_goOut 0 = .ok (.aload_n 0, 1) := by decide +kernel
theorem dX5_goOut_1 : decode cX5_goOut 1 = .ok (.getfield 13, 3) := by decide +kernel
theorem dX5_goOut_4 : decode cX5_goOut 4 = .ok (.iload_n 2, 1) := by decide +kernel
theorem dX5_goOut_5 : decode cX5_goOut 5 = .ok (.iconst 0, 1) := by decide +kernel
theorem dX5_goOut_6 : decode cX5_goOut 6 = .ok (.iastore, 1) := by decide +kernel
theorem dX5_goOut_7 : decode cX5_goOut 7 = .ok (.aload_n 0, 1) := by decide +kernel
theorem dX5_goOut_8 : decode cX5_goOut 8 = .ok (.getfield 20, 3) := by decide +kernel
theorem dX5_goOut_11 : decode cX5_goOut 11 = .ok (.iload_n 1, 1) := by decide +kernel
theorem dX5_goOut_12 : decode cX5_goOut 12 = .ok (.iaload, 1) := by decide +kernel
theorem dX5_goOut_13 : decode cX5_goOut 13 = .ok (.iconst 2, 1) := by decide +kernel
theorem dX5_goOut_14 : decode cX5_goOut 14 = .ok (.if_icmp .ne 14, 3) := by decide +kernel
theorem dX5_goOut_17 : decode cX5_goOut 17 = .ok (.aload_n 0, 1) := by decide +kernel
theorem dX5_goOut_18 : decode cX5_goOut 18 = .ok (.getfield 13, 3) := by decide +kernel
theorem dX5_goOut_21 : decode cX5_goOut 21 = .ok (.aload_n 0, 1) := by decide +kernel
theorem dX5_goOut_22 : decode cX5_goOut 22 = .ok (.iload_n 2, 1) := by decide +kernel
theorem dX5_goOut_23 : decode cX5_goOut 23 = .ok (.invokevirtual 81, 3) := by decide +kernel
theorem dX5_goOut_26 : decode cX5_goOut 26 = .ok (.iconst 0, 1) := by decide +kernel
theorem dX5_goOut_27 : decode cX5_goOut 27 = .ok (.iastore, 1) := by decide +kernel
theorem dX5_goOut_28 : decode cX5_goOut 28 = .ok (.aload_n 0, 1) := by decide +kernel
theorem dX5_goOut_29 : decode cX5_goOut 29 = .ok (.getfield 26, 3) := by decide +kernel
theorem dX5_goOut_32 : decode cX5_goOut 32 = .ok (.iload_n 1, 1) := by decide +kernel
theorem dX5_goOut_33 : decode cX5_goOut 33 = .ok (.iconst 3, 1) := by decide +kernel
theorem dX5_goOut_34 : decode cX5_goOut 34 = .ok (.iastore, 1) := by decide +kernel
theorem dX5_goOut_35 : decode cX5_goOut 35 = .ok (.aload_n 0, 1) := by decide +kernel
theorem dX5_goOut_36 : decode cX5_goOut 36 = .ok (.getfield 42, 3) := by decide +kernel
theorem dX5_goOut_39 : decode cX5_goOut 39 = .ok (.iload_n 3, 1) := by decide +kernel
theorem dX5_goOut_40 : decode cX5_goOut 40 = .ok (.dup2, 1) := by decide +kernel
theorem dX5_goOut_41 : decode cX5_goOut 41 = .ok (.iaload, 1) := by decide +kernel
theorem dX5_goOut_42 : decode cX5_goOut 42 = .ok (.iconst 1, 1) := by decide +kernel
theorem dX5_goOut_43 : decode cX5_goOut 43 = .ok (.iadd, 1) := by decide +kernel
theorem dX5_goOut_44 : decode cX5_goOut 44 = .ok (.iastore, 1) := by decide +kernel
theorem dX5_goOut_45 : decode cX5_goOut 45 = .ok (.aload_n 0, 1) := by decide +kernel
theorem dX5_goOut_46 : decode cX5_goOut 46 = .ok (.getfield 49, 3) := by decide +kernel
theorem dX5_goOut_49 : decode cX5_goOut 49 = .ok (.aload_n 0, 1) := by decide +kernel
theorem dX5_goOut_50 : decode cX5_goOut 50 = .ok (.getfield 84, 3) := by decide +kernel
theorem dX5_goOut_53 : decode cX5_goOut 53 = .ok (.iload_n 1, 1) := by decide +kernel
theorem dX5_goOut_54 : decode cX5_goOut 54 = .ok (.iastore, 1) := by decide +kernel
theorem dX5_goOut_55 : decode cX5_goOut 55 = .ok (.aload_n 0, 1) := by decide +kernel
theorem dX5_goOut_56 : decode cX5_goOut 56 = .ok (.getfield 52, 3) := by decide +kernel
theorem dX5_goOut_59 : decode cX5_goOut 59 = .ok (.aload_n 0, 1) := by decide +kernel
theorem dX5_goOut_60 : decode cX5_goOut 60 = .ok (.getfield 84, 3) := by decide +kernel
theorem dX5_goOut_63 : decode cX5_goOut 63 = .ok (.iload_n 3, 1) := by decide +kernel
theorem dX5_goOut_64 : decode cX5_goOut 64 = .ok (.iastore, 1) := by decide +kernel
theorem dX5_goOut_65 : decode cX5_goOut 65 = .ok (.aload_n 0, 1) := by decide +kernel
theorem dX5_goOut_66 : decode cX5_goOut 66 = .ok (.getfield 55, 3) := by decide +kernel
theorem dX5_goOut_69 : decode cX5_goOut 69 = .ok (.aload_n 0, 1) := by decide +kernel
theorem dX5_goOut_70 : decode cX5_goOut 70 = .ok (.getfield 84, 3) := by decide +kernel
theorem dX5_goOut_73 : decode cX5_goOut 73 = .ok (.aload_n 0, 1) := by decide +kernel
theorem dX5_goOut_74 : decode cX5_goOut 74 = .ok (.getfield 87, 3) := by decide +kernel
theorem dX5_goOut_77 : decode cX5_goOut 77 = .ok (.iastore, 1) := by decide +kernel
theorem dX5_goOut_78 : decode cX5_goOut 78 = .ok (.aload_n 0, 1) := by decide +kernel
theorem dX5_goOut_79 : decode cX5_goOut 79 = .ok (.dup, 1) := by decide +kernel
theorem dX5_goOut_80 : decode cX5_goOut 80 = .ok (.getfield 84, 3) := by decide +kernel
theorem dX5_goOut_83 : decode cX5_goOut 83 = .ok (.iconst 1, 1) := by decide +kernel
theorem dX5_goOut_84 : decode cX5_goOut 84 = .ok (.iadd, 1) := by decide +kernel
theorem dX5_goOut_85 : decode cX5_goOut 85 = .ok (.putfield 84, 3) := by decide +kernel
theorem dX5_goOut_88 : decode cX5_goOut 88 = .ok (.return_, 1) := by decide +kernel
set_option maxRecDepth 20000 in
theorem ggX5_passChute_X5_hasRoom : GoodIn wsX5_passChute wsX5_hasRoom := goodIn_r _ [13, 14, 15, 30, 31, 32, 33, 34, 35, 36, 37, 38, 39, 40, 41, 42, 43, 44, 45, 46, 47, 48, 49, 50, 51] (by decide +kernel) (by decide +kernel)
set_option maxRecDepth 20000 in
theorem gX5_passChute_X5_hasRoom : GoodIn wsX5_passChute (wsV RX5 90 RX5 yX5_hasRoom wsX5_hasRoom) := goodIn_app (goodIn_of _ (by decide +kernel)) ggX5_passChute_X5_hasRoom
set_option maxRecDepth 20000 in
theorem ggX5_passChute_X5_goOut : GoodIn wsX5_passChute wsX5_goOut := goodIn_r _ [19, 2, 20, 5, 15, 21, 22, 23, 24, 25, 26, 27, 28, 12, 29, 1, 30, 31, 32, 33, 34, 35, 36, 37, 38, 39, 40, 41, 42, 43, 44, 45, 46, 47, 48, 49, 50, 51] (by decide +kernel) (by decide +kernel)
set_option maxRecDepth 20000 in
theorem gX5_passChute_X5_goOut : GoodIn wsX5_passChute (wsV RX5 94 RX5 yX5_goOut wsX5_goOut) := goodIn_app (goodIn_of _ (by decide +kernel)) ggX5_passChute_X5_goOut
theorem dX5_passChute_0 : decode cX5_passChute 0 = .ok (.iload_n 1, 1) := by decide +kernel
theorem dX5_passChute_1 : decode cX5_passChute 1 = .ok (.aload_n 0, 1) := by decide +kernel
theorem dX5_passChute_2 : decode cX5_passChute 2 = .ok (.getfield 61, 3) := by decide +kernel
theorem dX5_passChute_5 : decode cX5_passChute 5 = .ok (.imul, 1) := by decide +kernel
theorem dX5_passChute_6 : decode cX5_passChute 6 = .ok (.aload_n 0, 1) := by decide +kernel
theorem dX5_passChute_7 : decode cX5_passChute 7 = .ok (.getfield 61, 3) := by decide +kernel
theorem dX5_passChute_10 : decode cX5_passChute 10 = .ok (.iconst 2, 1) := by decide +kernel
theorem dX5_passChute_11 : decode cX5_passChute 11 = .ok (.idiv, 1) := by decide +kernel
theorem dX5_passChute_12 : decode cX5_passChute 12 = .ok (.iadd, 1) := by decide +kernel
theorem dX5_passChute_13 : decode cX5_passChute 13 = .ok (.bipush 16, 2) := by decide +kernel
theorem dX5_passChute_15 : decode cX5_passChute 15 = .ok (.idiv, 1) := by decide +kernel
theorem dX5_passChute_16 : decode cX5_passChute 16 = .ok (.istore_n 2, 1) := by decide +kernel
theorem dX5_passChute_17 : decode cX5_passChute 17 = .ok (.aload_n 0, 1) := by decide +kernel
theorem dX5_passChute_18 : decode cX5_passChute 18 = .ok (.getfield 13, 3) := by decide +kernel
theorem dX5_passChute_21 : decode cX5_passChute 21 = .ok (.iload_n 2, 1) := by decide +kernel
theorem dX5_passChute_22 : decode cX5_passChute 22 = .ok (.iaload, 1) := by decide +kernel
theorem dX5_passChute_23 : decode cX5_passChute 23 = .ok (.istore_n 3, 1) := by decide +kernel
theorem dX5_passChute_24 : decode cX5_passChute 24 = .ok (.iload_n 3, 1) := by decide +kernel
theorem dX5_passChute_25 : decode cX5_passChute 25 = .ok (.ifCond .eq 28, 3) := by decide +kernel
theorem dX5_passChute_28 : decode cX5_passChute 28 = .ok (.aload_n 0, 1) := by decide +kernel
theorem dX5_passChute_29 : decode cX5_passChute 29 = .ok (.getfield 29, 3) := by decide +kernel
theorem dX5_passChute_32 : decode cX5_passChute 32 = .ok (.iload_n 3, 1) := by decide +kernel
theorem dX5_passChute_33 : decode cX5_passChute 33 = .ok (.iaload, 1) := by decide +kernel
theorem dX5_passChute_34 : decode cX5_passChute 34 = .ok (.aload_n 0, 1) := by decide +kernel
theorem dX5_passChute_35 : decode cX5_passChute 35 = .ok (.getfield 7, 3) := by decide +kernel
theorem dX5_passChute_38 : decode cX5_passChute 38 = .ok (.iload_n 2, 1) := by decide +kernel
theorem dX5_passChute_39 : decode cX5_passChute 39 = .ok (.iaload, 1) := by decide +kernel
theorem dX5_passChute_40 : decode cX5_passChute 40 = .ok (.if_icmp .ne 13, 3) := by decide +kernel
theorem dX5_passChute_43 : decode cX5_passChute 43 = .ok (.aload_n 0, 1) := by decide +kernel
theorem dX5_passChute_44 : decode cX5_passChute 44 = .ok (.getfield 26, 3) := by decide +kernel
theorem dX5_passChute_47 : decode cX5_passChute 47 = .ok (.iload_n 3, 1) := by decide +kernel
theorem dX5_passChute_48 : decode cX5_passChute 48 = .ok (.iaload, 1) := by decide +kernel
theorem dX5_passChute_49 : decode cX5_passChute 49 = .ok (.iconst 1, 1) := by decide +kernel
theorem dX5_passChute_50 : decode cX5_passChute 50 = .ok (.if_icmp .eq 4, 3) := by decide +kernel
theorem dX5_passChute_53 : decode cX5_passChute 53 = .ok (.return_, 1) := by decide +kernel
theorem dX5_passChute_54 : decode cX5_passChute 54 = .ok (.aload_n 0, 1) := by decide +kernel
theorem dX5_passChute_55 : decode cX5_passChute 55 = .ok (.getfield 23, 3) := by decide +kernel
theorem dX5_passChute_58 : decode cX5_passChute 58 = .ok (.iload_n 3, 1) := by decide +kernel
theorem dX5_passChute_59 : decode cX5_passChute 59 = .ok (.iaload, 1) := by decide +kernel
theorem dX5_passChute_60 : decode cX5_passChute 60 = .ok (.iload_n 1, 1) := by decide +kernel
theorem dX5_passChute_61 : decode cX5_passChute 61 = .ok (.if_icmp .eq 22, 3) := by decide +kernel
theorem dX5_passChute_64 : decode cX5_passChute 64 = .ok (.iload_n 1, 1) := by decide +kernel
theorem dX5_passChute_65 : decode cX5_passChute 65 = .ok (.bipush 15, 2) := by decide +kernel
theorem dX5_passChute_67 : decode cX5_passChute 67 = .ok (.if_icmp .ne 20, 3) := by decide +kernel
theorem dX5_passChute_70 : decode cX5_passChute 70 = .ok (.aload_n 0, 1) := by decide +kernel
theorem dX5_passChute_71 : decode cX5_passChute 71 = .ok (.getfield 32, 3) := by decide +kernel
theorem dX5_passChute_74 : decode cX5_passChute 74 = .ok (.iload_n 3, 1) := by decide +kernel
theorem dX5_passChute_75 : decode cX5_passChute 75 = .ok (.iaload, 1) := by decide +kernel
theorem dX5_passChute_76 : decode cX5_passChute 76 = .ok (.aload_n 0, 1) := by decide +kernel
theorem dX5_passChute_77 : decode cX5_passChute 77 = .ok (.getfield 64, 3) := by decide +kernel
theorem dX5_passChute_80 : decode cX5_passChute 80 = .ok (.if_icmp .lt 7, 3) := by decide +kernel
theorem dX5_passChute_83 : decode cX5_passChute 83 = .ok (.iconst 1, 1) := by decide +kernel
theorem dX5_passChute_84 : decode cX5_passChute 84 = .ok (.goto 4, 3) := by decide +kernel
theorem dX5_passChute_87 : decode cX5_passChute 87 = .ok (.iconst 0, 1) := by decide +kernel
theorem dX5_passChute_88 : decode cX5_passChute 88 = .ok (.istore 4, 2) := by decide +kernel
theorem dX5_passChute_90 : decode cX5_passChute 90 = .ok (.iload 4, 2) := by decide +kernel
theorem dX5_passChute_92 : decode cX5_passChute 92 = .ok (.ifCond .eq 21, 3) := by decide +kernel
theorem dX5_passChute_95 : decode cX5_passChute 95 = .ok (.aload_n 0, 1) := by decide +kernel
theorem dX5_passChute_96 : decode cX5_passChute 96 = .ok (.iload_n 1, 1) := by decide +kernel
theorem dX5_passChute_97 : decode cX5_passChute 97 = .ok (.invokevirtual 90, 3) := by decide +kernel
theorem dX5_passChute_100 : decode cX5_passChute 100 = .ok (.ifCond .eq 13, 3) := by decide +kernel
theorem dX5_passChute_103 : decode cX5_passChute 103 = .ok (.aload_n 0, 1) := by decide +kernel
theorem dX5_passChute_104 : decode cX5_passChute 104 = .ok (.iload_n 3, 1) := by decide +kernel
theorem dX5_passChute_105 : decode cX5_passChute 105 = .ok (.iload_n 2, 1) := by decide +kernel
theorem dX5_passChute_106 : decode cX5_passChute 106 = .ok (.iload_n 1, 1) := by decide +kernel
theorem dX5_passChute_107 : decode cX5_passChute 107 = .ok (.invokevirtual 94, 3) := by decide +kernel
theorem dX5_passChute_110 : decode cX5_passChute 110 = .ok (.goto 23, 3) := by decide +kernel
theorem dX5_passChute_113 : decode cX5_passChute 113 = .ok (.aload_n 0, 1) := by decide +kernel
theorem dX5_passChute_114 : decode cX5_passChute 114 = .ok (.getfield 23, 3) := by decide +kernel
theorem dX5_passChute_117 : decode cX5_passChute 117 = .ok (.iload_n 3, 1) := by decide +kernel
theorem dX5_passChute_118 : decode cX5_passChute 118 = .ok (.iaload, 1) := by decide +kernel
theorem dX5_passChute_119 : decode cX5_passChute 119 = .ok (.iload_n 1, 1) := by decide +kernel
theorem dX5_passChute_120 : decode cX5_passChute 120 = .ok (.if_icmp .ne 13, 3) := by decide +kernel
theorem dX5_passChute_123 : decode cX5_passChute 123 = .ok (.aload_n 0, 1) := by decide +kernel
theorem dX5_passChute_124 : decode cX5_passChute 124 = .ok (.getfield 32, 3) := by decide +kernel
theorem dX5_passChute_127 : decode cX5_passChute 127 = .ok (.iload_n 3, 1) := by decide +kernel
theorem dX5_passChute_128 : decode cX5_passChute 128 = .ok (.dup2, 1) := by decide +kernel
theorem dX5_passChute_129 : decode cX5_passChute 129 = .ok (.iaload, 1) := by decide +kernel
theorem dX5_passChute_130 : decode cX5_passChute 130 = .ok (.iconst 1, 1) := by decide +kernel
theorem dX5_passChute_131 : decode cX5_passChute 131 = .ok (.iadd, 1) := by decide +kernel
theorem dX5_passChute_132 : decode cX5_passChute 132 = .ok (.iastore, 1) := by decide +kernel
theorem dX5_passChute_133 : decode cX5_passChute 133 = .ok (.return_, 1) := by decide +kernel
theorem dX5_firstWaiting_0 : decode cX5_firstWaiting 0 = .ok (.iconst 0, 1) := by decide +kernel
theorem dX5_firstWaiting_1 : decode cX5_firstWaiting 1 = .ok (.istore_n 2, 1) := by decide +kernel
theorem dX5_firstWaiting_2 : decode cX5_firstWaiting 2 = .ok (.aload_n 0, 1) := by decide +kernel
theorem dX5_firstWaiting_3 : decode cX5_firstWaiting 3 = .ok (.getfield 70, 3) := by decide +kernel
theorem dX5_firstWaiting_6 : decode cX5_firstWaiting 6 = .ok (.istore_n 3, 1) := by decide +kernel
theorem dX5_firstWaiting_7 : decode cX5_firstWaiting 7 = .ok (.iload_n 3, 1) := by decide +kernel
theorem dX5_firstWaiting_8 : decode cX5_firstWaiting 8 = .ok (.ifCond .le 34, 3) := by decide +kernel
theorem dX5_firstWaiting_11 : decode cX5_firstWaiting 11 = .ok (.aload_n 0, 1) := by decide +kernel
theorem dX5_firstWaiting_12 : decode cX5_firstWaiting 12 = .ok (.getfield 26, 3) := by decide +kernel
theorem dX5_firstWaiting_15 : decode cX5_firstWaiting 15 = .ok (.iload_n 3, 1) := by decide +kernel
theorem dX5_firstWaiting_16 : decode cX5_firstWaiting 16 = .ok (.iaload, 1) := by decide +kernel
theorem dX5_firstWaiting_17 : decode cX5_firstWaiting 17 = .ok (.ifCond .ne 17, 3) := by decide +kernel
theorem dX5_firstWaiting_20 : decode cX5_firstWaiting 20 = .ok (.aload_n 0, 1) := by decide +kernel
theorem dX5_firstWaiting_21 : decode cX5_firstWaiting 21 = .ok (.getfield 35, 3) := by decide +kernel
theorem dX5_firstWaiting_24 : decode cX5_firstWaiting 24 = .ok (.iload_n 3, 1) := by decide +kernel
theorem dX5_firstWaiting_25 : decode cX5_firstWaiting 25 = .ok (.iaload, 1) := by decide +kernel
theorem dX5_firstWaiting_26 : decode cX5_firstWaiting 26 = .ok (.iload_n 1, 1) := by decide +kernel
theorem dX5_firstWaiting_27 : decode cX5_firstWaiting 27 = .ok (.if_icmp .ne 7, 3) := by decide +kernel
theorem dX5_firstWaiting_30 : decode cX5_firstWaiting 30 = .ok (.iload_n 3, 1) := by decide +kernel
theorem dX5_firstWaiting_31 : decode cX5_firstWaiting 31 = .ok (.goto 4, 3) := by decide +kernel
theorem dX5_firstWaiting_34 : decode cX5_firstWaiting 34 = .ok (.iload_n 2, 1) := by decide +kernel
theorem dX5_firstWaiting_35 : decode cX5_firstWaiting 35 = .ok (.istore_n 2, 1) := by decide +kernel
theorem dX5_firstWaiting_36 : decode cX5_firstWaiting 36 = .ok (.iinc 3 (-1), 3) := by decide +kernel
theorem dX5_firstWaiting_39 : decode cX5_firstWaiting 39 = .ok (.goto (-32), 3) := by decide +kernel
theorem dX5_firstWaiting_42 : decode cX5_firstWaiting 42 = .ok (.iload_n 2, 1) := by decide +kernel
theorem dX5_firstWaiting_43 : decode cX5_firstWaiting 43 = .ok (.ireturn, 1) := by decide +kernel
set_option maxRecDepth 20000 in
theorem ggX5_putOn_X5_firstWaiting : GoodIn wsX5_putOn wsX5_firstWaiting := goodIn_r _ [12, 13, 6, 14, 19, 20, 21, 22, 23, 24, 25, 26, 27, 28, 29, 30, 31, 32, 33, 34, 35, 36, 37, 38, 39, 40] (by decide +kernel) (by decide +kernel)
set_option maxRecDepth 20000 in
theorem gX5_putOn_X5_firstWaiting : GoodIn wsX5_putOn (wsV RX5 98 RX5 yX5_firstWaiting wsX5_firstWaiting) := goodIn_app (goodIn_of _ (by decide +kernel)) ggX5_putOn_X5_firstWaiting
set_option maxRecDepth 20000 in
theorem ggX5_putOn_X5_before : GoodIn wsX5_putOn wsX5_before := goodIn_r _ [18, 1, 19, 20, 21, 22, 23, 24, 25, 26, 27, 28, 29, 30, 31, 32, 33, 34, 35, 36, 37, 38, 39, 40] (by decide +kernel) (by decide +kernel)
set_option maxRecDepth 20000 in
theorem gX5_putOn_X5_before : GoodIn wsX5_putOn (wsV RX5 81 RX5 yX5_before wsX5_before) := goodIn_app (goodIn_of _ (by decide +kernel)) ggX5_putOn_X5_before
theorem dX5_putOn_0 : decode cX5_putOn 0 = .ok (.aload_n 0, 1) := by decide +kernel
theorem dX5_putOn_1 : decode cX5_putOn 1 = .ok (.iload_n 1, 1) := by decide +kernel
theorem dX5_putOn_2 : decode cX5_putOn 2 = .ok (.invokevirtual 98, 3) := by decide +kernel
theorem dX5_putOn_5 : decode cX5_putOn 5 = .ok (.istore_n 2, 1) := by decide +kernel
theorem dX5_putOn_6 : decode cX5_putOn 6 = .ok (.iload_n 1, 1) := by decide +kernel
theorem dX5_putOn_7 : decode cX5_putOn 7 = .ok (.aload_n 0, 1) := by decide +kernel
theorem dX5_putOn_8 : decode cX5_putOn 8 = .ok (.getfield 61, 3) := by decide +kernel
theorem dX5_putOn_11 : decode cX5_putOn 11 = .ok (.imul, 1) := by decide +kernel
theorem dX5_putOn_12 : decode cX5_putOn 12 = .ok (.iconst 4, 1) := by decide +kernel
theorem dX5_putOn_13 : decode cX5_putOn 13 = .ok (.idiv, 1) := by decide +kernel
theorem dX5_putOn_14 : decode cX5_putOn 14 = .ok (.istore_n 3, 1) := by decide +kernel
theorem dX5_putOn_15 : decode cX5_putOn 15 = .ok (.iload_n 2, 1) := by decide +kernel
theorem dX5_putOn_16 : decode cX5_putOn 16 = .ok (.ifCond .eq 12, 3) := by decide +kernel
theorem dX5_putOn_19 : decode cX5_putOn 19 = .ok (.aload_n 0, 1) := by decide +kernel
theorem dX5_putOn_20 : decode cX5_putOn 20 = .ok (.getfield 13, 3) := by decide +kernel
theorem dX5_putOn_23 : decode cX5_putOn 23 = .ok (.iload_n 3, 1) := by decide +kernel
theorem dX5_putOn_24 : decode cX5_putOn 24 = .ok (.iaload, 1) := by decide +kernel
theorem dX5_putOn_25 : decode cX5_putOn 25 = .ok (.ifCond .eq 4, 3) := by decide +kernel
theorem dX5_putOn_28 : decode cX5_putOn 28 = .ok (.return_, 1) := by decide +kernel
theorem dX5_putOn_29 : decode cX5_putOn 29 = .ok (.aload_n 0, 1) := by decide +kernel
theorem dX5_putOn_30 : decode cX5_putOn 30 = .ok (.getfield 20, 3) := by decide +kernel
theorem dX5_putOn_33 : decode cX5_putOn 33 = .ok (.iload_n 2, 1) := by decide +kernel
theorem dX5_putOn_34 : decode cX5_putOn 34 = .ok (.iaload, 1) := by decide +kernel
theorem dX5_putOn_35 : decode cX5_putOn 35 = .ok (.iconst 2, 1) := by decide +kernel
theorem dX5_putOn_36 : decode cX5_putOn 36 = .ok (.if_icmp .ne 25, 3) := by decide +kernel
theorem dX5_putOn_39 : decode cX5_putOn 39 = .ok (.aload_n 0, 1) := by decide +kernel
theorem dX5_putOn_40 : decode cX5_putOn 40 = .ok (.getfield 61, 3) := by decide +kernel
theorem dX5_putOn_43 : decode cX5_putOn 43 = .ok (.iconst 1, 1) := by decide +kernel
theorem dX5_putOn_44 : decode cX5_putOn 44 = .ok (.if_icmp .eq 16, 3) := by decide +kernel
theorem dX5_putOn_47 : decode cX5_putOn 47 = .ok (.aload_n 0, 1) := by decide +kernel
theorem dX5_putOn_48 : decode cX5_putOn 48 = .ok (.getfield 13, 3) := by decide +kernel
theorem dX5_putOn_51 : decode cX5_putOn 51 = .ok (.aload_n 0, 1) := by decide +kernel
theorem dX5_putOn_52 : decode cX5_putOn 52 = .ok (.iload_n 3, 1) := by decide +kernel
theorem dX5_putOn_53 : decode cX5_putOn 53 = .ok (.invokevirtual 81, 3) := by decide +kernel
theorem dX5_putOn_56 : decode cX5_putOn 56 = .ok (.iaload, 1) := by decide +kernel
theorem dX5_putOn_57 : decode cX5_putOn 57 = .ok (.ifCond .eq 4, 3) := by decide +kernel
theorem dX5_putOn_60 : decode cX5_putOn 60 = .ok (.return_, 1) := by decide +kernel
theorem dX5_putOn_61 : decode cX5_putOn 61 = .ok (.aload_n 0, 1) := by decide +kernel
theorem dX5_putOn_62 : decode cX5_putOn 62 = .ok (.getfield 13, 3) := by decide +kernel
theorem dX5_putOn_65 : decode cX5_putOn 65 = .ok (.iload_n 3, 1) := by decide +kernel
theorem dX5_putOn_66 : decode cX5_putOn 66 = .ok (.iload_n 2, 1) := by decide +kernel
theorem dX5_putOn_67 : decode cX5_putOn 67 = .ok (.iastore, 1) := by decide +kernel
theorem dX5_putOn_68 : decode cX5_putOn 68 = .ok (.aload_n 0, 1) := by decide +kernel
theorem dX5_putOn_69 : decode cX5_putOn 69 = .ok (.getfield 20, 3) := by decide +kernel
theorem dX5_putOn_72 : decode cX5_putOn 72 = .ok (.iload_n 2, 1) := by decide +kernel
theorem dX5_putOn_73 : decode cX5_putOn 73 = .ok (.iaload, 1) := by decide +kernel
theorem dX5_putOn_74 : decode cX5_putOn 74 = .ok (.iconst 2, 1) := by decide +kernel
theorem dX5_putOn_75 : decode cX5_putOn 75 = .ok (.if_icmp .ne 14, 3) := by decide +kernel
theorem dX5_putOn_78 : decode cX5_putOn 78 = .ok (.aload_n 0, 1) := by decide +kernel
theorem dX5_putOn_79 : decode cX5_putOn 79 = .ok (.getfield 13, 3) := by decide +kernel
theorem dX5_putOn_82 : decode cX5_putOn 82 = .ok (.aload_n 0, 1) := by decide +kernel
theorem dX5_putOn_83 : decode cX5_putOn 83 = .ok (.iload_n 3, 1) := by decide +kernel
theorem dX5_putOn_84 : decode cX5_putOn 84 = .ok (.invokevirtual 81, 3) := by decide +kernel
theorem dX5_putOn_87 : decode cX5_putOn 87 = .ok (.iload_n 2, 1) := by decide +kernel
theorem dX5_putOn_88 : decode cX5_putOn 88 = .ok (.iastore, 1) := by decide +kernel
theorem dX5_putOn_89 : decode cX5_putOn 89 = .ok (.aload_n 0, 1) := by decide +kernel
theorem dX5_putOn_90 : decode cX5_putOn 90 = .ok (.getfield 29, 3) := by decide +kernel
theorem dX5_putOn_93 : decode cX5_putOn 93 = .ok (.iload_n 2, 1) := by decide +kernel
theorem dX5_putOn_94 : decode cX5_putOn 94 = .ok (.aload_n 0, 1) := by decide +kernel
theorem dX5_putOn_95 : decode cX5_putOn 95 = .ok (.getfield 7, 3) := by decide +kernel
theorem dX5_putOn_98 : decode cX5_putOn 98 = .ok (.iload_n 3, 1) := by decide +kernel
theorem dX5_putOn_99 : decode cX5_putOn 99 = .ok (.iaload, 1) := by decide +kernel
theorem dX5_putOn_100 : decode cX5_putOn 100 = .ok (.iastore, 1) := by decide +kernel
theorem dX5_putOn_101 : decode cX5_putOn 101 = .ok (.aload_n 0, 1) := by decide +kernel
theorem dX5_putOn_102 : decode cX5_putOn 102 = .ok (.getfield 26, 3) := by decide +kernel
theorem dX5_putOn_105 : decode cX5_putOn 105 = .ok (.iload_n 2, 1) := by decide +kernel
theorem dX5_putOn_106 : decode cX5_putOn 106 = .ok (.iconst 1, 1) := by decide +kernel
theorem dX5_putOn_107 : decode cX5_putOn 107 = .ok (.iastore, 1) := by decide +kernel
theorem dX5_putOn_108 : decode cX5_putOn 108 = .ok (.aload_n 0, 1) := by decide +kernel
theorem dX5_putOn_109 : decode cX5_putOn 109 = .ok (.getfield 38, 3) := by decide +kernel
theorem dX5_putOn_112 : decode cX5_putOn 112 = .ok (.iload_n 1, 1) := by decide +kernel
theorem dX5_putOn_113 : decode cX5_putOn 113 = .ok (.dup2, 1) := by decide +kernel
theorem dX5_putOn_114 : decode cX5_putOn 114 = .ok (.laload, 1) := by decide +kernel
theorem dX5_putOn_115 : decode cX5_putOn 115 = .ok (.lconst 1, 1) := by decide +kernel
theorem dX5_putOn_116 : decode cX5_putOn 116 = .ok (.ladd, 1) := by decide +kernel
theorem dX5_putOn_117 : decode cX5_putOn 117 = .ok (.lastore, 1) := by decide +kernel
theorem dX5_putOn_118 : decode cX5_putOn 118 = .ok (.return_, 1) := by decide +kernel
set_option maxRecDepth 20000 in
theorem ggX5_turns_X5_putOn : GoodIn wsX5_turns wsX5_putOn := goodIn_r _ [7, 8, 9, 10, 11, 12, 13, 2, 14, 15, 16, 6, 17, 18, 19, 20, 21, 22, 23, 24, 25, 26, 27, 28, 29, 30, 31, 32, 33, 34, 35, 36, 37, 38, 39, 40, 41, 42, 43, 44, 45] (by decide +kernel) (by decide +kernel)
set_option maxRecDepth 20000 in
theorem gX5_turns_X5_putOn : GoodIn wsX5_turns (wsV RX5 101 RX5 yX5_putOn wsX5_putOn) := goodIn_app (goodIn_of _ (by decide +kernel)) ggX5_turns_X5_putOn
theorem dX5_turns_0 : decode cX5_turns 0 = .ok (.iconst 0, 1) := by decide +kernel
theorem dX5_turns_1 : decode cX5_turns 1 = .ok (.istore_n 1, 1) := by decide +kernel
theorem dX5_turns_2 : decode cX5_turns 2 = .ok (.iload_n 1, 1) := by decide +kernel
theorem dX5_turns_3 : decode cX5_turns 3 = .ok (.iconst 4, 1) := by decide +kernel
theorem dX5_turns_4 : decode cX5_turns 4 = .ok (.if_icmp .ge 16, 3) := by decide +kernel
theorem dX5_turns_7 : decode cX5_turns 7 = .ok (.aload_n 0, 1) := by decide +kernel
theorem dX5_turns_8 : decode cX5_turns 8 = .ok (.getfield 58, 3) := by decide +kernel
theorem dX5_turns_11 : decode cX5_turns 11 = .ok (.iload_n 1, 1) := by decide +kernel
theorem dX5_turns_12 : decode cX5_turns 12 = .ok (.iconst 0, 1) := by decide +kernel
theorem dX5_turns_13 : decode cX5_turns 13 = .ok (.bastore, 1) := by decide +kernel
theorem dX5_turns_14 : decode cX5_turns 14 = .ok (.iinc 1 1, 3) := by decide +kernel
theorem dX5_turns_17 : decode cX5_turns 17 = .ok (.goto (-15), 3) := by decide +kernel
theorem dX5_turns_20 : decode cX5_turns 20 = .ok (.iconst 0, 1) := by decide +kernel
theorem dX5_turns_21 : decode cX5_turns 21 = .ok (.istore_n 1, 1) := by decide +kernel
theorem dX5_turns_22 : decode cX5_turns 22 = .ok (.iload_n 1, 1) := by decide +kernel
theorem dX5_turns_23 : decode cX5_turns 23 = .ok (.iconst 4, 1) := by decide +kernel
theorem dX5_turns_24 : decode cX5_turns 24 = .ok (.if_icmp .ge 67, 3) := by decide +kernel
theorem dX5_turns_27 : decode cX5_turns 27 = .ok (.iconst (-1), 1) := by decide +kernel
theorem dX5_turns_28 : decode cX5_turns 28 = .ok (.istore_n 2, 1) := by decide +kernel
theorem dX5_turns_29 : decode cX5_turns 29 = .ok (.iconst 0, 1) := by decide +kernel
theorem dX5_turns_30 : decode cX5_turns 30 = .ok (.istore_n 3, 1) := by decide +kernel
theorem dX5_turns_31 : decode cX5_turns 31 = .ok (.iload_n 3, 1) := by decide +kernel
theorem dX5_turns_32 : decode cX5_turns 32 = .ok (.iconst 4, 1) := by decide +kernel
theorem dX5_turns_33 : decode cX5_turns 33 = .ok (.if_icmp .ge 40, 3) := by decide +kernel
theorem dX5_turns_36 : decode cX5_turns 36 = .ok (.aload_n 0, 1) := by decide +kernel
theorem dX5_turns_37 : decode cX5_turns 37 = .ok (.getfield 58, 3) := by decide +kernel
theorem dX5_turns_40 : decode cX5_turns 40 = .ok (.iload_n 3, 1) := by decide +kernel
theorem dX5_turns_41 : decode cX5_turns 41 = .ok (.baload, 1) := by decide +kernel
theorem dX5_turns_42 : decode cX5_turns 42 = .ok (.ifCond .ne 25, 3) := by decide +kernel
theorem dX5_turns_45 : decode cX5_turns 45 = .ok (.iload_n 2, 1) := by decide +kernel
theorem dX5_turns_46 : decode cX5_turns 46 = .ok (.ifCond .lt 19, 3) := by decide +kernel
theorem dX5_turns_49 : decode cX5_turns 49 = .ok (.aload_n 0, 1) := by decide +kernel
theorem dX5_turns_50 : decode cX5_turns 50 = .ok (.getfield 38, 3) := by decide +kernel
theorem dX5_turns_53 : decode cX5_turns 53 = .ok (.iload_n 3, 1) := by decide +kernel
theorem dX5_turns_54 : decode cX5_turns 54 = .ok (.laload, 1) := by decide +kernel
theorem dX5_turns_55 : decode cX5_turns 55 = .ok (.aload_n 0, 1) := by decide +kernel
theorem dX5_turns_56 : decode cX5_turns 56 = .ok (.getfield 38, 3) := by decide +kernel
theorem dX5_turns_59 : decode cX5_turns 59 = .ok (.iload_n 2, 1) := by decide +kernel
theorem dX5_turns_60 : decode cX5_turns 60 = .ok (.laload, 1) := by decide +kernel
theorem dX5_turns_61 : decode cX5_turns 61 = .ok (.lcmp, 1) := by decide +kernel
theorem dX5_turns_62 : decode cX5_turns 62 = .ok (.ifCond .ge 5, 3) := by decide +kernel
theorem dX5_turns_65 : decode cX5_turns 65 = .ok (.iload_n 3, 1) := by decide +kernel
theorem dX5_turns_66 : decode cX5_turns 66 = .ok (.istore_n 2, 1) := by decide +kernel
theorem dX5_turns_67 : decode cX5_turns 67 = .ok (.iinc 3 1, 3) := by decide +kernel
theorem dX5_turns_70 : decode cX5_turns 70 = .ok (.goto (-39), 3) := by decide +kernel
theorem dX5_turns_73 : decode cX5_turns 73 = .ok (.aload_n 0, 1) := by decide +kernel
theorem dX5_turns_74 : decode cX5_turns 74 = .ok (.getfield 58, 3) := by decide +kernel
theorem dX5_turns_77 : decode cX5_turns 77 = .ok (.iload_n 2, 1) := by decide +kernel
theorem dX5_turns_78 : decode cX5_turns 78 = .ok (.iconst 1, 1) := by decide +kernel
theorem dX5_turns_79 : decode cX5_turns 79 = .ok (.bastore, 1) := by decide +kernel
theorem dX5_turns_80 : decode cX5_turns 80 = .ok (.aload_n 0, 1) := by decide +kernel
theorem dX5_turns_81 : decode cX5_turns 81 = .ok (.iload_n 2, 1) := by decide +kernel
theorem dX5_turns_82 : decode cX5_turns 82 = .ok (.invokevirtual 101, 3) := by decide +kernel
theorem dX5_turns_85 : decode cX5_turns 85 = .ok (.iinc 1 1, 3) := by decide +kernel
theorem dX5_turns_88 : decode cX5_turns 88 = .ok (.goto (-66), 3) := by decide +kernel
theorem dX5_turns_91 : decode cX5_turns 91 = .ok (.return_, 1) := by decide +kernel
set_option maxRecDepth 20000 in
theorem ggX5_step_X5_in : GoodIn wsX5_step wsX5_in := goodIn_r _ [8] (by decide +kernel) (by decide +kernel)
set_option maxRecDepth 20000 in
theorem gX5_step_X5_in : GoodIn wsX5_step (va_wsS RX5 73 yX5_in wsX5_in) := goodIn_app (goodIn_of _ (by decide +kernel)) ggX5_step_X5_in
set_option maxRecDepth 20000 in
theorem ggX5_step_X5_move : GoodIn wsX5_step wsX5_move := goodIn_r _ [12, 13, 14, 15, 59, 60, 61, 62, 63, 64, 65, 66, 67, 68, 69, 70, 71, 72, 73, 74, 75, 76, 77, 78, 79, 80] (by decide +kernel) (by decide +kernel)
set_option maxRecDepth 20000 in
theorem gX5_step_X5_move : GoodIn wsX5_step (wsV RX5 105 RX5 yX5_move wsX5_move) := goodIn_app (goodIn_of _ (by decide +kernel)) ggX5_step_X5_move
set_option maxRecDepth 20000 in
theorem ggX5_step_X5_passChute : GoodIn wsX5_step wsX5_passChute := goodIn_r _ [19, 14, 15, 20, 13, 21, 22, 23, 24, 25, 26, 27, 7, 28, 29, 30, 31, 32, 33, 34, 35, 36, 2, 37, 38, 4, 39, 40, 41, 42, 59, 60, 61, 62, 63, 64, 65, 66, 67, 68, 69, 70, 71, 72, 73, 74, 75, 76, 77, 78, 79, 80] (by decide +kernel) (by decide +kernel)
set_option maxRecDepth 20000 in
theorem gX5_step_X5_passChute : GoodIn wsX5_step (wsV RX5 108 RX5 yX5_passChute wsX5_passChute) := goodIn_app (goodIn_of _ (by decide +kernel)) ggX5_step_X5_passChute
set_option maxRecDepth 20000 in
theorem ggX5_step_X5_turns : GoodIn wsX5_step wsX5_turns := goodIn_r _ [46, 47, 48, 49, 50, 51, 7, 52, 14, 15, 35, 20, 13, 21, 53, 54, 55, 56, 57, 58, 39, 40, 41, 42, 59, 60, 61, 62, 63, 64, 65, 66, 67, 68, 69, 70, 71, 72, 73, 74, 75, 76, 77, 78, 79, 80] (by decide +kernel) (by decide +kernel)
set_option maxRecDepth 20000 in
theorem gX5_step_X5_turns : GoodIn wsX5_step (wsV RX5 111 RX5 yX5_turns wsX5_turns) := goodIn_app (goodIn_of _ (by decide +kernel)) ggX5_step_X5_turns
theorem dX5_step_0 : decode cX5_step 0 = .ok (.aload_n 0, 1) := by decide +kernel
theorem dX5_step_1 : decode cX5_step 1 = .ok (.iconst 0, 1) := by decide +kernel
theorem dX5_step_2 : decode cX5_step 2 = .ok (.putfield 67, 3) := by decide +kernel
theorem dX5_step_5 : decode cX5_step 5 = .ok (.iload_n 1, 1) := by decide +kernel
theorem dX5_step_6 : decode cX5_step 6 = .ok (.iconst 0, 1) := by decide +kernel
theorem dX5_step_7 : decode cX5_step 7 = .ok (.sipush 1000, 3) := by decide +kernel
theorem dX5_step_10 : decode cX5_step 10 = .ok (.invokestatic 73, 3) := by decide +kernel
theorem dX5_step_13 : decode cX5_step 13 = .ok (.ifCond .ne 6, 3) := by decide +kernel
theorem dX5_step_16 : decode cX5_step 16 = .ok (.bipush (-12), 2) := by decide +kernel
theorem dX5_step_18 : decode cX5_step 18 = .ok (.ireturn, 1) := by decide +kernel
theorem dX5_step_19 : decode cX5_step 19 = .ok (.aload_n 0, 1) := by decide +kernel
theorem dX5_step_20 : decode cX5_step 20 = .ok (.getfield 84, 3) := by decide +kernel
theorem dX5_step_23 : decode cX5_step 23 = .ok (.istore_n 2, 1) := by decide +kernel
theorem dX5_step_24 : decode cX5_step 24 = .ok (.iconst 0, 1) := by decide +kernel
theorem dX5_step_25 : decode cX5_step 25 = .ok (.istore_n 3, 1) := by decide +kernel
theorem dX5_step_26 : decode cX5_step 26 = .ok (.iload_n 3, 1) := by decide +kernel
theorem dX5_step_27 : decode cX5_step 27 = .ok (.iload_n 1, 1) := by decide +kernel
theorem dX5_step_28 : decode cX5_step 28 = .ok (.if_icmp .ge 67, 3) := by decide +kernel
theorem dX5_step_31 : decode cX5_step 31 = .ok (.iconst 0, 1) := by decide +kernel
theorem dX5_step_32 : decode cX5_step 32 = .ok (.istore 4, 2) := by decide +kernel
theorem dX5_step_34 : decode cX5_step 34 = .ok (.iload 4, 2) := by decide +kernel
theorem dX5_step_36 : decode cX5_step 36 = .ok (.aload_n 0, 1) := by decide +kernel
theorem dX5_step_37 : decode cX5_step 37 = .ok (.getfield 16, 3) := by decide +kernel
theorem dX5_step_40 : decode cX5_step 40 = .ok (.if_icmp .ge 35, 3) := by decide +kernel
theorem dX5_step_43 : decode cX5_step 43 = .ok (.aload_n 0, 1) := by decide +kernel
theorem dX5_step_44 : decode cX5_step 44 = .ok (.invokevirtual 105, 3) := by decide +kernel
theorem dX5_step_47 : decode cX5_step 47 = .ok (.iconst 0, 1) := by decide +kernel
theorem dX5_step_48 : decode cX5_step 48 = .ok (.istore 5, 2) := by decide +kernel
theorem dX5_step_50 : decode cX5_step 50 = .ok (.iload 5, 2) := by decide +kernel
theorem dX5_step_52 : decode cX5_step 52 = .ok (.bipush 16, 2) := by decide +kernel
theorem dX5_step_54 : decode cX5_step 54 = .ok (.if_icmp .ge 15, 3) := by decide +kernel
theorem dX5_step_57 : decode cX5_step 57 = .ok (.aload_n 0, 1) := by decide +kernel
theorem dX5_step_58 : decode cX5_step 58 = .ok (.iload 5, 2) := by decide +kernel
theorem dX5_step_60 : decode cX5_step 60 = .ok (.invokevirtual 108, 3) := by decide +kernel
theorem dX5_step_63 : decode cX5_step 63 = .ok (.iinc 5 1, 3) := by decide +kernel
theorem dX5_step_66 : decode cX5_step 66 = .ok (.goto (-16), 3) := by decide +kernel
theorem dX5_step_69 : decode cX5_step 69 = .ok (.iinc 4 1, 3) := by decide +kernel
theorem dX5_step_72 : decode cX5_step 72 = .ok (.goto (-38), 3) := by decide +kernel
theorem dX5_step_75 : decode cX5_step 75 = .ok (.aload_n 0, 1) := by decide +kernel
theorem dX5_step_76 : decode cX5_step 76 = .ok (.dup, 1) := by decide +kernel
theorem dX5_step_77 : decode cX5_step 77 = .ok (.getfield 87, 3) := by decide +kernel
theorem dX5_step_80 : decode cX5_step 80 = .ok (.iconst 1, 1) := by decide +kernel
theorem dX5_step_81 : decode cX5_step 81 = .ok (.iadd, 1) := by decide +kernel
theorem dX5_step_82 : decode cX5_step 82 = .ok (.putfield 87, 3) := by decide +kernel
theorem dX5_step_85 : decode cX5_step 85 = .ok (.aload_n 0, 1) := by decide +kernel
theorem dX5_step_86 : decode cX5_step 86 = .ok (.invokevirtual 111, 3) := by decide +kernel
theorem dX5_step_89 : decode cX5_step 89 = .ok (.iinc 3 1, 3) := by decide +kernel
theorem dX5_step_92 : decode cX5_step 92 = .ok (.goto (-66), 3) := by decide +kernel
theorem dX5_step_95 : decode cX5_step 95 = .ok (.aload_n 0, 1) := by decide +kernel
theorem dX5_step_96 : decode cX5_step 96 = .ok (.getfield 84, 3) := by decide +kernel
theorem dX5_step_99 : decode cX5_step 99 = .ok (.iload_n 2, 1) := by decide +kernel
theorem dX5_step_100 : decode cX5_step 100 = .ok (.isub, 1) := by decide +kernel
theorem dX5_step_101 : decode cX5_step 101 = .ok (.ireturn, 1) := by decide +kernel
set_option maxRecDepth 20000 in
theorem ggX5_out_X5_in : GoodIn wsX5_out wsX5_in := goodIn_r _ [10] (by decide +kernel) (by decide +kernel)
set_option maxRecDepth 20000 in
theorem gX5_out_X5_in : GoodIn wsX5_out (va_wsS RX5 73 yX5_in wsX5_in) := goodIn_app (goodIn_of _ (by decide +kernel)) ggX5_out_X5_in
theorem dX5_out_0 : decode cX5_out 0 = .ok (.aload_n 0, 1) := by decide +kernel
theorem dX5_out_1 : decode cX5_out 1 = .ok (.iconst 0, 1) := by decide +kernel
theorem dX5_out_2 : decode cX5_out 2 = .ok (.putfield 67, 3) := by decide +kernel
theorem dX5_out_5 : decode cX5_out 5 = .ok (.iload_n 1, 1) := by decide +kernel
theorem dX5_out_6 : decode cX5_out 6 = .ok (.ifCond .lt 11, 3) := by decide +kernel
theorem dX5_out_9 : decode cX5_out 9 = .ok (.iload_n 1, 1) := by decide +kernel
theorem dX5_out_10 : decode cX5_out 10 = .ok (.aload_n 0, 1) := by decide +kernel
theorem dX5_out_11 : decode cX5_out 11 = .ok (.getfield 84, 3) := by decide +kernel
theorem dX5_out_14 : decode cX5_out 14 = .ok (.if_icmp .lt 6, 3) := by decide +kernel
theorem dX5_out_17 : decode cX5_out 17 = .ok (.bipush (-11), 2) := by decide +kernel
theorem dX5_out_19 : decode cX5_out 19 = .ok (.ireturn, 1) := by decide +kernel
theorem dX5_out_20 : decode cX5_out 20 = .ok (.iload_n 2, 1) := by decide +kernel
theorem dX5_out_21 : decode cX5_out 21 = .ok (.iconst 0, 1) := by decide +kernel
theorem dX5_out_22 : decode cX5_out 22 = .ok (.iconst 3, 1) := by decide +kernel
theorem dX5_out_23 : decode cX5_out 23 = .ok (.invokestatic 73, 3) := by decide +kernel
theorem dX5_out_26 : decode cX5_out 26 = .ok (.ifCond .ne 6, 3) := by decide +kernel
theorem dX5_out_29 : decode cX5_out 29 = .ok (.bipush (-12), 2) := by decide +kernel
theorem dX5_out_31 : decode cX5_out 31 = .ok (.ireturn, 1) := by decide +kernel
theorem dX5_out_32 : decode cX5_out 32 = .ok (.iload_n 2, 1) := by decide +kernel
theorem dX5_out_33 : decode cX5_out 33 = .ok (.ifCond .ne 12, 3) := by decide +kernel
theorem dX5_out_36 : decode cX5_out 36 = .ok (.aload_n 0, 1) := by decide +kernel
theorem dX5_out_37 : decode cX5_out 37 = .ok (.getfield 49, 3) := by decide +kernel
theorem dX5_out_40 : decode cX5_out 40 = .ok (.iload_n 1, 1) := by decide +kernel
theorem dX5_out_41 : decode cX5_out 41 = .ok (.iaload, 1) := by decide +kernel
theorem dX5_out_42 : decode cX5_out 42 = .ok (.goto 42, 3) := by decide +kernel
theorem dX5_out_45 : decode cX5_out 45 = .ok (.iload_n 2, 1) := by decide +kernel
theorem dX5_out_46 : decode cX5_out 46 = .ok (.iconst 1, 1) := by decide +kernel
theorem dX5_out_47 : decode cX5_out 47 = .ok (.if_icmp .ne 12, 3) := by decide +kernel
theorem dX5_out_50 : decode cX5_out 50 = .ok (.aload_n 0, 1) := by decide +kernel
theorem dX5_out_51 : decode cX5_out 51 = .ok (.getfield 52, 3) := by decide +kernel
theorem dX5_out_54 : decode cX5_out 54 = .ok (.iload_n 1, 1) := by decide +kernel
theorem dX5_out_55 : decode cX5_out 55 = .ok (.iaload, 1) := by decide +kernel
theorem dX5_out_56 : decode cX5_out 56 = .ok (.goto 28, 3) := by decide +kernel
theorem dX5_out_59 : decode cX5_out 59 = .ok (.iload_n 2, 1) := by decide +kernel
theorem dX5_out_60 : decode cX5_out 60 = .ok (.iconst 2, 1) := by decide +kernel
theorem dX5_out_61 : decode cX5_out 61 = .ok (.if_icmp .ne 12, 3) := by decide +kernel
theorem dX5_out_64 : decode cX5_out 64 = .ok (.aload_n 0, 1) := by decide +kernel
theorem dX5_out_65 : decode cX5_out 65 = .ok (.getfield 55, 3) := by decide +kernel
theorem dX5_out_68 : decode cX5_out 68 = .ok (.iload_n 1, 1) := by decide +kernel
theorem dX5_out_69 : decode cX5_out 69 = .ok (.iaload, 1) := by decide +kernel
theorem dX5_out_70 : decode cX5_out 70 = .ok (.goto 14, 3) := by decide +kernel
theorem dX5_out_73 : decode cX5_out 73 = .ok (.aload_n 0, 1) := by decide +kernel
theorem dX5_out_74 : decode cX5_out 74 = .ok (.getfield 32, 3) := by decide +kernel
theorem dX5_out_77 : decode cX5_out 77 = .ok (.aload_n 0, 1) := by decide +kernel
theorem dX5_out_78 : decode cX5_out 78 = .ok (.getfield 49, 3) := by decide +kernel
theorem dX5_out_81 : decode cX5_out 81 = .ok (.iload_n 1, 1) := by decide +kernel
theorem dX5_out_82 : decode cX5_out 82 = .ok (.iaload, 1) := by decide +kernel
theorem dX5_out_83 : decode cX5_out 83 = .ok (.iaload, 1) := by decide +kernel
theorem dX5_out_84 : decode cX5_out 84 = .ok (.ireturn, 1) := by decide +kernel
theorem dX5_itemOn_0 : decode cX5_itemOn 0 = .ok (.iconst 0, 1) := by decide +kernel
theorem dX5_itemOn_1 : decode cX5_itemOn 1 = .ok (.istore_n 2, 1) := by decide +kernel
theorem dX5_itemOn_2 : decode cX5_itemOn 2 = .ok (.iconst 0, 1) := by decide +kernel
theorem dX5_itemOn_3 : decode cX5_itemOn 3 = .ok (.istore_n 3, 1) := by decide +kernel
theorem dX5_itemOn_4 : decode cX5_itemOn 4 = .ok (.iload_n 3, 1) := by decide +kernel
theorem dX5_itemOn_5 : decode cX5_itemOn 5 = .ok (.aload_n 0, 1) := by decide +kernel
theorem dX5_itemOn_6 : decode cX5_itemOn 6 = .ok (.getfield 61, 3) := by decide +kernel
theorem dX5_itemOn_9 : decode cX5_itemOn 9 = .ok (.if_icmp .ge 30, 3) := by decide +kernel
theorem dX5_itemOn_12 : decode cX5_itemOn 12 = .ok (.aload_n 0, 1) := by decide +kernel
theorem dX5_itemOn_13 : decode cX5_itemOn 13 = .ok (.getfield 7, 3) := by decide +kernel
theorem dX5_itemOn_16 : decode cX5_itemOn 16 = .ok (.iload_n 3, 1) := by decide +kernel
theorem dX5_itemOn_17 : decode cX5_itemOn 17 = .ok (.iaload, 1) := by decide +kernel
theorem dX5_itemOn_18 : decode cX5_itemOn 18 = .ok (.iload_n 1, 1) := by decide +kernel
theorem dX5_itemOn_19 : decode cX5_itemOn 19 = .ok (.if_icmp .ne 12, 3) := by decide +kernel
theorem dX5_itemOn_22 : decode cX5_itemOn 22 = .ok (.aload_n 0, 1) := by decide +kernel
theorem dX5_itemOn_23 : decode cX5_itemOn 23 = .ok (.getfield 13, 3) := by decide +kernel
theorem dX5_itemOn_26 : decode cX5_itemOn 26 = .ok (.iload_n 3, 1) := by decide +kernel
theorem dX5_itemOn_27 : decode cX5_itemOn 27 = .ok (.iaload, 1) := by decide +kernel
theorem dX5_itemOn_28 : decode cX5_itemOn 28 = .ok (.goto 4, 3) := by decide +kernel
theorem dX5_itemOn_31 : decode cX5_itemOn 31 = .ok (.iload_n 2, 1) := by decide +kernel
theorem dX5_itemOn_32 : decode cX5_itemOn 32 = .ok (.istore_n 2, 1) := by decide +kernel
theorem dX5_itemOn_33 : decode cX5_itemOn 33 = .ok (.iinc 3 1, 3) := by decide +kernel
theorem dX5_itemOn_36 : decode cX5_itemOn 36 = .ok (.goto (-32), 3) := by decide +kernel
theorem dX5_itemOn_39 : decode cX5_itemOn 39 = .ok (.iload_n 2, 1) := by decide +kernel
theorem dX5_itemOn_40 : decode cX5_itemOn 40 = .ok (.ireturn, 1) := by decide +kernel
set_option maxRecDepth 20000 in
theorem ggX5_tray_X5_in : GoodIn wsX5_tray wsX5_in := goodIn_r _ [6] (by decide +kernel) (by decide +kernel)
set_option maxRecDepth 20000 in
theorem gX5_tray_X5_in : GoodIn wsX5_tray (va_wsS RX5 73 yX5_in wsX5_in) := goodIn_app (goodIn_of _ (by decide +kernel)) ggX5_tray_X5_in
set_option maxRecDepth 20000 in
theorem ggX5_tray_X5_itemOn : GoodIn wsX5_tray wsX5_itemOn := goodIn_r _ [10, 1, 11, 12, 13, 14, 15, 16, 17, 18, 19, 20, 21, 22, 23, 24, 25, 26, 27, 28, 29, 30, 31, 32, 33, 34] (by decide +kernel) (by decide +kernel)
set_option maxRecDepth 20000 in
theorem gX5_tray_X5_itemOn : GoodIn wsX5_tray (wsV RX5 114 RX5 yX5_itemOn wsX5_itemOn) := goodIn_app (goodIn_of _ (by decide +kernel)) ggX5_tray_X5_itemOn
theorem dX5_tray_0 : decode cX5_tray 0 = .ok (.aload_n 0, 1) := by decide +kernel
