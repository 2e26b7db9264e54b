theorem dX4_itemOn_5 : decode cX4_itemOn 5 = .ok (.ifCond .eq 12, 3) := by decide +kernel
theorem dX4_itemOn_8 : decode cX4_itemOn 8 = .ok (.aload_n 0, 1) := by decide +kernel
theorem dX4_itemOn_9 : decode cX4_itemOn 9 = .ok (.getfield 22, 3) := by decide +kernel
theorem dX4_itemOn_12 : decode cX4_itemOn 12 = .ok (.iload_n 1, 1) := by decide +kernel
theorem dX4_itemOn_13 : decode cX4_itemOn 13 = .ok (.aaload, 1) := by decide +kernel
theorem dX4_itemOn_14 : decode cX4_itemOn 14 = .ok (.goto 4, 3) := by decide +kernel
theorem dX4_itemOn_17 : decode cX4_itemOn 17 = .ok (.aconst_null, 1) := by decide +kernel
theorem dX4_itemOn_18 : decode cX4_itemOn 18 = .ok (.areturn, 1) := by decide +kernel
set_option maxRecDepth 20000 in
theorem ggX4_runOneStep_X4_passChutes : GoodIn wsX4_runOneStep wsX4_passChutes := goodIn_r _ [10, 11, 12, 13, 14, 15, 16, 17, 18, 9, 19, 2, 3, 20, 21, 22, 23, 24, 25, 26, 27, 28, 29, 30, 31, 32, 33, 34, 35, 36, 37, 38, 39, 40, 41, 42, 43, 44, 45, 46, 47, 4, 48, 49, 50, 5, 51, 52, 53, 54, 55, 56, 57, 58, 59, 60, 61, 62, 63, 64, 65, 66, 98, 99, 100, 101, 102, 103, 104, 105, 106, 107, 108, 109, 110, 111, 112, 113, 114, 115, 116, 117, 118, 119, 120, 121, 122] (by decide +kernel) (by decide +kernel)
set_option maxRecDepth 20000 in
theorem gX4_runOneStep_X4_passChutes : GoodIn wsX4_runOneStep (wsV RX4 156 RX4 yX4_passChutes wsX4_passChutes) := goodIn_app (goodIn_of _ (by decide +kernel)) ggX4_runOneStep_X4_passChutes
set_option maxRecDepth 20000 in
theorem ggX4_runOneStep_X4_takeTurns : GoodIn wsX4_runOneStep wsX4_takeTurns := goodIn_r _ [70, 71, 72, 73, 74, 75, 9, 76, 77, 78, 79, 80, 81, 82, 13, 15, 14, 4, 83, 84, 85, 86, 87, 88, 89, 16, 17, 18, 19, 2, 3, 90, 91, 92, 93, 58, 20, 21, 22, 23, 24, 25, 26, 27, 28, 63, 64, 65, 66, 94, 95, 96, 97, 54, 55, 56, 57, 59, 60, 61, 62, 98, 99, 100, 101, 102, 103, 104, 105, 106, 107, 108, 109, 110, 123, 124, 125, 126, 127, 115, 116, 117, 118, 119, 120, 121, 122] (by decide +kernel) (by decide +kernel)
set_option maxRecDepth 20000 in
theorem gX4_runOneStep_X4_takeTurns : GoodIn wsX4_runOneStep (wsV RX4 162 RX4 yX4_takeTurns wsX4_takeTurns) := goodIn_app (goodIn_of _ (by decide +kernel)) ggX4_runOneStep_X4_takeTurns
theorem dX4_runOneStep_0 : decode cX4_runOneStep 0 = .ok (.iconst 0, 1) := by decide +kernel
theorem dX4_runOneStep_1 : decode cX4_runOneStep 1 = .ok (.istore_n 1, 1) := by decide +kernel
theorem dX4_runOneStep_2 : decode cX4_runOneStep 2 = .ok (.iload_n 1, 1) := by decide +kernel
theorem dX4_runOneStep_3 : decode cX4_runOneStep 3 = .ok (.aload_n 0, 1) := by decide +kernel
theorem dX4_runOneStep_4 : decode cX4_runOneStep 4 = .ok (.getfield 32, 3) := by decide +kernel
theorem dX4_runOneStep_7 : decode cX4_runOneStep 7 = .ok (.if_icmp .ge 47, 3) := by decide +kernel
theorem dX4_runOneStep_10 : decode cX4_runOneStep 10 = .ok (.aload_n 0, 1) := by decide +kernel
theorem dX4_runOneStep_11 : decode cX4_runOneStep 11 = .ok (.aload_n 0, 1) := by decide +kernel
theorem dX4_runOneStep_12 : decode cX4_runOneStep 12 = .ok (.getfield 150, 3) := by decide +kernel
theorem dX4_runOneStep_15 : decode cX4_runOneStep 15 = .ok (.iconst 1, 1) := by decide +kernel
theorem dX4_runOneStep_16 : decode cX4_runOneStep 16 = .ok (.iadd, 1) := by decide +kernel
theorem dX4_runOneStep_17 : decode cX4_runOneStep 17 = .ok (.aload_n 0, 1) := by decide +kernel
theorem dX4_runOneStep_18 : decode cX4_runOneStep 18 = .ok (.getfield 13, 3) := by decide +kernel
theorem dX4_runOneStep_21 : decode cX4_runOneStep 21 = .ok (.if_icmp .ge 12, 3) := by decide +kernel
theorem dX4_runOneStep_24 : decode cX4_runOneStep 24 = .ok (.aload_n 0, 1) := by decide +kernel
theorem dX4_runOneStep_25 : decode cX4_runOneStep 25 = .ok (.getfield 150, 3) := by decide +kernel
theorem dX4_runOneStep_28 : decode cX4_runOneStep 28 = .ok (.iconst 1, 1) := by decide +kernel
theorem dX4_runOneStep_29 : decode cX4_runOneStep 29 = .ok (.iadd, 1) := by decide +kernel
theorem dX4_runOneStep_30 : decode cX4_runOneStep 30 = .ok (.goto 4, 3) := by decide +kernel
theorem dX4_runOneStep_33 : decode cX4_runOneStep 33 = .ok (.iconst 0, 1) := by decide +kernel
theorem dX4_runOneStep_34 : decode cX4_runOneStep 34 = .ok (.putfield 150, 3) := by decide +kernel
theorem dX4_runOneStep_37 : decode cX4_runOneStep 37 = .ok (.aload_n 0, 1) := by decide +kernel
theorem dX4_runOneStep_38 : decode cX4_runOneStep 38 = .ok (.getfield 153, 3) := by decide +kernel
theorem dX4_runOneStep_41 : decode cX4_runOneStep 41 = .ok (.ifCond .le 7, 3) := by decide +kernel
theorem dX4_runOneStep_44 : decode cX4_runOneStep 44 = .ok (.aload_n 0, 1) := by decide +kernel
theorem dX4_runOneStep_45 : decode cX4_runOneStep 45 = .ok (.invokevirtual 156, 3) := by decide +kernel
theorem dX4_runOneStep_48 : decode cX4_runOneStep 48 = .ok (.iinc 1 1, 3) := by decide +kernel
theorem dX4_runOneStep_51 : decode cX4_runOneStep 51 = .ok (.goto (-49), 3) := by decide +kernel
theorem dX4_runOneStep_54 : decode cX4_runOneStep 54 = .ok (.aload_n 0, 1) := by decide +kernel
theorem dX4_runOneStep_55 : decode cX4_runOneStep 55 = .ok (.dup, 1) := by decide +kernel
theorem dX4_runOneStep_56 : decode cX4_runOneStep 56 = .ok (.getfield 159, 3) := by decide +kernel
theorem dX4_runOneStep_59 : decode cX4_runOneStep 59 = .ok (.iconst 1, 1) := by decide +kernel
theorem dX4_runOneStep_60 : decode cX4_runOneStep 60 = .ok (.iadd, 1) := by decide +kernel
theorem dX4_runOneStep_61 : decode cX4_runOneStep 61 = .ok (.putfield 159, 3) := by decide +kernel
theorem dX4_runOneStep_64 : decode cX4_runOneStep 64 = .ok (.aload_n 0, 1) := by decide +kernel
theorem dX4_runOneStep_65 : decode cX4_runOneStep 65 = .ok (.invokevirtual 162, 3) := by decide +kernel
theorem dX4_runOneStep_68 : decode cX4_runOneStep 68 = .ok (.return_, 1) := by decide +kernel
set_option maxRecDepth 20000 in
theorem ggX4_passChutes_X4_trayAt : GoodIn wsX4_passChutes wsX4_trayAt := goodIn_r _ [10, 11, 12, 62, 63, 64, 65, 66, 67, 68, 69, 70, 71, 72, 73, 74] (by decide +kernel) (by decide +kernel)
set_option maxRecDepth 20000 in
theorem gX4_passChutes_X4_trayAt : GoodIn wsX4_passChutes (wsV RX4 168 RX4 yX4_trayAt wsX4_trayAt) := goodIn_app (goodIn_of _ (by decide +kernel)) ggX4_passChutes_X4_trayAt
set_option maxRecDepth 20000 in
theorem ggX4_passChutes_X4_itemOn : GoodIn wsX4_passChutes wsX4_itemOn := goodIn_r _ [16, 17, 18, 19, 20, 9, 21, 12, 62, 63, 64, 65, 66, 67, 68, 69, 70, 71, 72, 73, 74] (by decide +kernel) (by decide +kernel)
set_option maxRecDepth 20000 in
theorem gX4_passChutes_X4_itemOn : GoodIn wsX4_passChutes (wsV RX4 106 RX4 yX4_itemOn wsX4_itemOn) := goodIn_app (goodIn_of _ (by decide +kernel)) ggX4_passChutes_X4_itemOn
set_option maxRecDepth 20000 in
theorem ggX4_passChutes_X4_passChute : GoodIn wsX4_passChutes wsX4_passChute := goodIn_r _ [25, 26, 27, 28, 1, 29, 30, 31, 32, 33, 34, 35, 36, 37, 38, 39, 9, 40, 41, 42, 43, 4, 44, 45, 46, 47, 48, 49, 50, 51, 52, 3, 53, 54, 55, 56, 57, 12, 17, 58, 59, 60, 61, 79, 80, 81, 82, 83, 84, 85, 86, 62, 63, 64, 65, 66, 67, 68, 69, 70, 71, 72, 73, 74, 75, 76, 77, 78] (by decide +kernel) (by decide +kernel)
set_option maxRecDepth 20000 in
theorem gX4_passChutes_X4_passChute : GoodIn wsX4_passChutes (wsV RX4 172 RX4 yX4_passChute wsX4_passChute) := goodIn_app (goodIn_of _ (by decide +kernel)) ggX4_passChutes_X4_passChute
theorem dX4_passChutes_0 : decode cX4_passChutes 0 = .ok (.iconst 0, 1) := by decide +kernel
theorem dX4_passChutes_1 : decode cX4_passChutes 1 = .ok (.istore_n 1, 1) := by decide +kernel
theorem dX4_passChutes_2 : decode cX4_passChutes 2 = .ok (.iload_n 1, 1) := by decide +kernel
theorem dX4_passChutes_3 : decode cX4_passChutes 3 = .ok (.bipush 16, 2) := by decide +kernel
theorem dX4_passChutes_5 : decode cX4_passChutes 5 = .ok (.if_icmp .ge 57, 3) := by decide +kernel
theorem dX4_passChutes_8 : decode cX4_passChutes 8 = .ok (.aload_n 0, 1) := by decide +kernel
theorem dX4_passChutes_9 : decode cX4_passChutes 9 = .ok (.aload_n 0, 1) := by decide +kernel
theorem dX4_passChutes_10 : decode cX4_passChutes 10 = .ok (.getfield 46, 3) := by decide +kernel
theorem dX4_passChutes_13 : decode cX4_passChutes 13 = .ok (.iload_n 1, 1) := by decide +kernel
theorem dX4_passChutes_14 : decode cX4_passChutes 14 = .ok (.aaload, 1) := by decide +kernel
theorem dX4_passChutes_15 : decode cX4_passChutes 15 = .ok (.getfield 165, 3) := by decide +kernel
theorem dX4_passChutes_18 : decode cX4_passChutes 18 = .ok (.invokevirtual 168, 3) := by decide +kernel
theorem dX4_passChutes_21 : decode cX4_passChutes 21 = .ok (.istore_n 2, 1) := by decide +kernel
theorem dX4_passChutes_22 : decode cX4_passChutes 22 = .ok (.aload_n 0, 1) := by decide +kernel
theorem dX4_passChutes_23 : decode cX4_passChutes 23 = .ok (.iload_n 2, 1) := by decide +kernel
theorem dX4_passChutes_24 : decode cX4_passChutes 24 = .ok (.invokevirtual 106, 3) := by decide +kernel
theorem dX4_passChutes_27 : decode cX4_passChutes 27 = .ok (.astore_n 3, 1) := by decide +kernel
theorem dX4_passChutes_28 : decode cX4_passChutes 28 = .ok (.aload_n 3, 1) := by decide +kernel
theorem dX4_passChutes_29 : decode cX4_passChutes 29 = .ok (.ifnull 27, 3) := by decide +kernel
theorem dX4_passChutes_32 : decode cX4_passChutes 32 = .ok (.aload_n 3, 1) := by decide +kernel
theorem dX4_passChutes_33 : decode cX4_passChutes 33 = .ok (.getfield 133, 3) := by decide +kernel
theorem dX4_passChutes_36 : decode cX4_passChutes 36 = .ok (.iload_n 2, 1) := by decide +kernel
theorem dX4_passChutes_37 : decode cX4_passChutes 37 = .ok (.if_icmp .ne 19, 3) := by decide +kernel
theorem dX4_passChutes_40 : decode cX4_passChutes 40 = .ok (.aload_n 3, 1) := by decide +kernel
theorem dX4_passChutes_41 : decode cX4_passChutes 41 = .ok (.getfield 121, 3) := by decide +kernel
theorem dX4_passChutes_44 : decode cX4_passChutes 44 = .ok (.getstatic 125, 3) := by decide +kernel
theorem dX4_passChutes_47 : decode cX4_passChutes 47 = .ok (.if_acmp .ne 9, 3) := by decide +kernel
theorem dX4_passChutes_50 : decode cX4_passChutes 50 = .ok (.aload_n 0, 1) := by decide +kernel
theorem dX4_passChutes_51 : decode cX4_passChutes 51 = .ok (.aload_n 3, 1) := by decide +kernel
theorem dX4_passChutes_52 : decode cX4_passChutes 52 = .ok (.iload_n 1, 1) := by decide +kernel
theorem dX4_passChutes_53 : decode cX4_passChutes 53 = .ok (.invokevirtual 172, 3) := by decide +kernel
theorem dX4_passChutes_56 : decode cX4_passChutes 56 = .ok (.iinc 1 1, 3) := by decide +kernel
theorem dX4_passChutes_59 : decode cX4_passChutes 59 = .ok (.goto (-57), 3) := by decide +kernel
theorem dX4_passChutes_62 : decode cX4_passChutes 62 = .ok (.return_, 1) := by decide +kernel
set_option maxRecDepth 20000 in
theorem ggX4_passChute_X0_hasRoom : GoodIn wsX4_passChute wsX0_hasRoom := goodIn_r _ [9, 10, 11, 12, 64, 65, 66, 67] (by decide +kernel) (by decide +kernel)
set_option maxRecDepth 20000 in
theorem gX4_passChute_X0_hasRoom : GoodIn wsX4_passChute (wsV RX4 179 RX0 yX0_hasRoom wsX0_hasRoom) := goodIn_app (goodIn_of _ (by decide +kernel)) ggX4_passChute_X0_hasRoom
set_option maxRecDepth 20000 in
theorem ggX4_passChute_X4_letOut : GoodIn wsX4_passChute wsX4_letOut := goodIn_r _ [17, 18, 4, 19, 20, 21, 22, 23, 24, 25, 26, 27, 28, 29, 16, 30, 31, 32, 33, 34, 35, 36, 37, 38, 39, 40, 41, 42, 51, 52, 53, 54, 55, 56, 57, 58, 59, 60, 61, 62, 63, 64, 65, 66, 67, 43, 44, 45, 46, 47, 48, 49, 50] (by decide +kernel) (by decide +kernel)
set_option maxRecDepth 20000 in
theorem gX4_passChute_X4_letOut : GoodIn wsX4_passChute (wsV RX4 182 RX4 yX4_letOut wsX4_letOut) := goodIn_app (goodIn_of _ (by decide +kernel)) ggX4_passChute_X4_letOut
theorem dX4_passChute_0 : decode cX4_passChute 0 = .ok (.aload_n 1, 1) := by decide +kernel
theorem dX4_passChute_1 : decode cX4_passChute 1 = .ok (.getfield 176, 3) := by decide +kernel
theorem dX4_passChute_4 : decode cX4_passChute 4 = .ok (.iload_n 2, 1) := by decide +kernel
theorem dX4_passChute_5 : decode cX4_passChute 5 = .ok (.if_icmp .ne 7, 3) := by decide +kernel
theorem dX4_passChute_8 : decode cX4_passChute 8 = .ok (.iconst 1, 1) := by decide +kernel
theorem dX4_passChute_9 : decode cX4_passChute 9 = .ok (.goto 4, 3) := by decide +kernel
theorem dX4_passChute_12 : decode cX4_passChute 12 = .ok (.iconst 0, 1) := by decide +kernel
theorem dX4_passChute_13 : decode cX4_passChute 13 = .ok (.istore_n 3, 1) := by decide +kernel
theorem dX4_passChute_14 : decode cX4_passChute 14 = .ok (.iload_n 2, 1) := by decide +kernel
theorem dX4_passChute_15 : decode cX4_passChute 15 = .ok (.bipush 15, 2) := by decide +kernel
theorem dX4_passChute_17 : decode cX4_passChute 17 = .ok (.if_icmp .ne 18, 3) := by decide +kernel
theorem dX4_passChute_20 : decode cX4_passChute 20 = .ok (.aload_n 1, 1) := by decide +kernel
theorem dX4_passChute_21 : decode cX4_passChute 21 = .ok (.getfield 93, 3) := by decide +kernel
theorem dX4_passChute_24 : decode cX4_passChute 24 = .ok (.aload_n 0, 1) := by decide +kernel
theorem dX4_passChute_25 : decode cX4_passChute 25 = .ok (.getfield 17, 3) := by decide +kernel
theorem dX4_passChute_28 : decode cX4_passChute 28 = .ok (.if_icmp .lt 7, 3) := by decide +kernel
theorem dX4_passChute_31 : decode cX4_passChute 31 = .ok (.iconst 1, 1) := by decide +kernel
theorem dX4_passChute_32 : decode cX4_passChute 32 = .ok (.goto 4, 3) := by decide +kernel
theorem dX4_passChute_35 : decode cX4_passChute 35 = .ok (.iconst 0, 1) := by decide +kernel
theorem dX4_passChute_36 : decode cX4_passChute 36 = .ok (.istore 4, 2) := by decide +kernel
theorem dX4_passChute_38 : decode cX4_passChute 38 = .ok (.iload_n 3, 1) := by decide +kernel
theorem dX4_passChute_39 : decode cX4_passChute 39 = .ok (.ifCond .ne 9, 3) := by decide +kernel
theorem dX4_passChute_42 : decode cX4_passChute 42 = .ok (.iload 4, 2) := by decide +kernel
theorem dX4_passChute_44 : decode cX4_passChute 44 = .ok (.ifCond .ne 4, 3) := by decide +kernel
theorem dX4_passChute_47 : decode cX4_passChute 47 = .ok (.return_, 1) := by decide +kernel
theorem dX4_passChute_48 : decode cX4_passChute 48 = .ok (.aload_n 0, 1) := by decide +kernel
theorem dX4_passChute_49 : decode cX4_passChute 49 = .ok (.getfield 46, 3) := by decide +kernel
theorem dX4_passChute_52 : decode cX4_passChute 52 = .ok (.iload_n 2, 1) := by decide +kernel
theorem dX4_passChute_53 : decode cX4_passChute 53 = .ok (.aaload, 1) := by decide +kernel
theorem dX4_passChute_54 : decode cX4_passChute 54 = .ok (.invokevirtual 179, 3) := by decide +kernel
theorem dX4_passChute_57 : decode cX4_passChute 57 = .ok (.ifCond .eq 12, 3) := by decide +kernel
theorem dX4_passChute_60 : decode cX4_passChute 60 = .ok (.aload_n 0, 1) := by decide +kernel
theorem dX4_passChute_61 : decode cX4_passChute 61 = .ok (.aload_n 1, 1) := by decide +kernel
theorem dX4_passChute_62 : decode cX4_passChute 62 = .ok (.iload_n 2, 1) := by decide +kernel
theorem dX4_passChute_63 : decode cX4_passChute 63 = .ok (.invokevirtual 182, 3) := by decide +kernel
theorem dX4_passChute_66 : decode cX4_passChute 66 = .ok (.goto 17, 3) := by decide +kernel
theorem dX4_passChute_69 : decode cX4_passChute 69 = .ok (.iload_n 3, 1) := by decide +kernel
theorem dX4_passChute_70 : decode cX4_passChute 70 = .ok (.ifCond .eq 13, 3) := by decide +kernel
theorem dX4_passChute_73 : decode cX4_passChute 73 = .ok (.aload_n 1, 1) := by decide +kernel
theorem dX4_passChute_74 : decode cX4_passChute 74 = .ok (.dup, 1) := by decide +kernel
theorem dX4_passChute_75 : decode cX4_passChute 75 = .ok (.getfield 93, 3) := by decide +kernel
theorem dX4_passChute_78 : decode cX4_passChute 78 = .ok (.iconst 1, 1) := by decide +kernel
theorem dX4_passChute_79 : decode cX4_passChute 79 = .ok (.iadd, 1) := by decide +kernel
theorem dX4_passChute_80 : decode cX4_passChute 80 = .ok (.putfield 93, 3) := by decide +kernel
theorem dX4_passChute_83 : decode cX4_passChute 83 = .ok (.return_, 1) := by decide +kernel
set_option maxRecDepth 20000 in
theorem ggX4_letOut_X4_setTraysOf : GoodIn wsX4_letOut wsX4_setTraysOf := goodIn_r _ [15, 16, 17, 18, 19, 20, 14, 21, 22, 23, 24, 25, 26, 27, 45, 46, 47, 48, 49, 50, 51, 52, 28, 29, 30, 31, 32, 33, 34, 35, 36, 37, 38, 39, 40] (by decide +kernel) (by decide +kernel)
set_option maxRecDepth 20000 in
theorem gX4_letOut_X4_setTraysOf : GoodIn wsX4_letOut (wsV RX4 185 RX4 yX4_setTraysOf wsX4_setTraysOf) := goodIn_app (goodIn_of _ (by decide +kernel)) ggX4_letOut_X4_setTraysOf
theorem dX4_letOut_0 : decode cX4_letOut 0 = .ok (.aload_n 0, 1) := by decide +kernel
theorem dX4_letOut_1 : decode cX4_letOut 1 = .ok (.aload_n 1, 1) := by decide +kernel
theorem dX4_letOut_2 : decode cX4_letOut 2 = .ok (.aconst_null, 1) := by decide +kernel
theorem dX4_letOut_3 : decode cX4_letOut 3 = .ok (.invokevirtual 185, 3) := by decide +kernel
theorem dX4_letOut_6 : decode cX4_letOut 6 = .ok (.aload_n 0, 1) := by decide +kernel
theorem dX4_letOut_7 : decode cX4_letOut 7 = .ok (.dup, 1) := by decide +kernel
theorem dX4_letOut_8 : decode cX4_letOut 8 = .ok (.getfield 153, 3) := by decide +kernel
theorem dX4_letOut_11 : decode cX4_letOut 11 = .ok (.iconst 1, 1) := by decide +kernel
theorem dX4_letOut_12 : decode cX4_letOut 12 = .ok (.isub, 1) := by decide +kernel
theorem dX4_letOut_13 : decode cX4_letOut 13 = .ok (.putfield 153, 3) := by decide +kernel
theorem dX4_letOut_16 : decode cX4_letOut 16 = .ok (.aload_n 0, 1) := by decide +kernel
theorem dX4_letOut_17 : decode cX4_letOut 17 = .ok (.getfield 46, 3) := by decide +kernel
theorem dX4_letOut_20 : decode cX4_letOut 20 = .ok (.iload_n 2, 1) := by decide +kernel
theorem dX4_letOut_21 : decode cX4_letOut 21 = .ok (.aaload, 1) := by decide +kernel
theorem dX4_letOut_22 : decode cX4_letOut 22 = .ok (.dup, 1) := by decide +kernel
theorem dX4_letOut_23 : decode cX4_letOut 23 = .ok (.getfield 109, 3) := by decide +kernel
theorem dX4_letOut_26 : decode cX4_letOut 26 = .ok (.iconst 1, 1) := by decide +kernel
theorem dX4_letOut_27 : decode cX4_letOut 27 = .ok (.iadd, 1) := by decide +kernel
theorem dX4_letOut_28 : decode cX4_letOut 28 = .ok (.putfield 109, 3) := by decide +kernel
theorem dX4_letOut_31 : decode cX4_letOut 31 = .ok (.aload_n 1, 1) := by decide +kernel
theorem dX4_letOut_32 : decode cX4_letOut 32 = .ok (.getstatic 189, 3) := by decide +kernel
theorem dX4_letOut_35 : decode cX4_letOut 35 = .ok (.putfield 121, 3) := by decide +kernel
theorem dX4_letOut_38 : decode cX4_letOut 38 = .ok (.aload_n 1, 1) := by decide +kernel
theorem dX4_letOut_39 : decode cX4_letOut 39 = .ok (.iload_n 2, 1) := by decide +kernel
theorem dX4_letOut_40 : decode cX4_letOut 40 = .ok (.putfield 87, 3) := by decide +kernel
theorem dX4_letOut_43 : decode cX4_letOut 43 = .ok (.aload_n 1, 1) := by decide +kernel
theorem dX4_letOut_44 : decode cX4_letOut 44 = .ok (.aload_n 0, 1) := by decide +kernel
theorem dX4_letOut_45 : decode cX4_letOut 45 = .ok (.getfield 159, 3) := by decide +kernel
theorem dX4_letOut_48 : decode cX4_letOut 48 = .ok (.putfield 90, 3) := by decide +kernel
theorem dX4_letOut_51 : decode cX4_letOut 51 = .ok (.aload_n 0, 1) := by decide +kernel
theorem dX4_letOut_52 : decode cX4_letOut 52 = .ok (.getfield 77, 3) := by decide +kernel
theorem dX4_letOut_55 : decode cX4_letOut 55 = .ok (.sipush 400, 3) := by decide +kernel
theorem dX4_letOut_58 : decode cX4_letOut 58 = .ok (.if_icmp .ge 23, 3) := by decide +kernel
theorem dX4_letOut_61 : decode cX4_letOut 61 = .ok (.aload_n 0, 1) := by decide +kernel
theorem dX4_letOut_62 : decode cX4_letOut 62 = .ok (.getfield 29, 3) := by decide +kernel
theorem dX4_letOut_65 : decode cX4_letOut 65 = .ok (.aload_n 0, 1) := by decide +kernel
theorem dX4_letOut_66 : decode cX4_letOut 66 = .ok (.getfield 77, 3) := by decide +kernel
theorem dX4_letOut_69 : decode cX4_letOut 69 = .ok (.aload_n 1, 1) := by decide +kernel
theorem dX4_letOut_70 : decode cX4_letOut 70 = .ok (.aastore, 1) := by decide +kernel
theorem dX4_letOut_71 : decode cX4_letOut 71 = .ok (.aload_n 0, 1) := by decide +kernel
theorem dX4_letOut_72 : decode cX4_letOut 72 = .ok (.dup, 1) := by decide +kernel
theorem dX4_letOut_73 : decode cX4_letOut 73 = .ok (.getfield 77, 3) := by decide +kernel
theorem dX4_letOut_76 : decode cX4_letOut 76 = .ok (.iconst 1, 1) := by decide +kernel
theorem dX4_letOut_77 : decode cX4_letOut 77 = .ok (.iadd, 1) := by decide +kernel
theorem dX4_letOut_78 : decode cX4_letOut 78 = .ok (.putfield 77, 3) := by decide +kernel
theorem dX4_letOut_81 : decode cX4_letOut 81 = .ok (.return_, 1) := by decide +kernel
set_option maxRecDepth 20000 in
theorem ggX4_takeTurns_X4_nextInTurn : GoodIn wsX4_takeTurns wsX4_nextInTurn := goodIn_r _ [7, 1, 2, 8, 61, 62, 63, 64, 65, 66, 67, 68, 69, 70, 71, 72, 73, 74, 75, 76, 77, 78] (by decide +kernel) (by decide +kernel)
set_option maxRecDepth 20000 in
theorem gX4_takeTurns_X4_nextInTurn : GoodIn wsX4_takeTurns (wsV RX4 196 RX4 yX4_nextInTurn wsX4_nextInTurn) := goodIn_app (goodIn_of _ (by decide +kernel)) ggX4_takeTurns_X4_nextInTurn
set_option maxRecDepth 20000 in
theorem ggX4_takeTurns_X4_putFirstOn : GoodIn wsX4_takeTurns wsX4_putFirstOn := goodIn_r _ [12, 13, 8, 14, 15, 16, 17, 18, 19, 20, 21, 22, 23, 24, 25, 26, 27, 6, 28, 29, 30, 31, 32, 33, 34, 35, 36, 37, 38, 39, 40, 41, 42, 43, 44, 45, 46, 47, 48, 49, 50, 51, 52, 53, 54, 55, 56, 57, 58, 59, 60, 74, 75, 76, 77, 78, 79, 80, 81, 82, 83, 84, 85, 86, 61, 62, 63, 64, 65, 66, 67, 68, 69, 70, 71, 72, 73] (by decide +kernel) (by decide +kernel)
set_option maxRecDepth 20000 in
theorem gX4_takeTurns_X4_putFirstOn : GoodIn wsX4_takeTurns (wsV RX4 200 RX4 yX4_putFirstOn wsX4_putFirstOn) := goodIn_app (goodIn_of _ (by decide +kernel)) ggX4_takeTurns_X4_putFirstOn
theorem dX4_takeTurns_0 : decode cX4_takeTurns 0 = .ok (.iconst 0, 1) := by decide +kernel
theorem dX4_takeTurns_1 : decode cX4_takeTurns 1 = .ok (.istore_n 1, 1) := by decide +kernel
theorem dX4_takeTurns_2 : decode cX4_takeTurns 2 = .ok (.iload_n 1, 1) := by decide +kernel
theorem dX4_takeTurns_3 : decode cX4_takeTurns 3 = .ok (.iconst 4, 1) := by decide +kernel
theorem dX4_takeTurns_4 : decode cX4_takeTurns 4 = .ok (.if_icmp .ge 19, 3) := by decide +kernel
theorem dX4_takeTurns_7 : decode cX4_takeTurns 7 = .ok (.aload_n 0, 1) := by decide +kernel
theorem dX4_takeTurns_8 : decode cX4_takeTurns 8 = .ok (.getfield 37, 3) := by decide +kernel
theorem dX4_takeTurns_11 : decode cX4_takeTurns 11 = .ok (.iload_n 1, 1) := by decide +kernel
theorem dX4_takeTurns_12 : decode cX4_takeTurns 12 = .ok (.aaload, 1) := by decide +kernel
theorem dX4_takeTurns_13 : decode cX4_takeTurns 13 = .ok (.iconst 0, 1) := by decide +kernel
theorem dX4_takeTurns_14 : decode cX4_takeTurns 14 = .ok (.putfield 192, 3) := by decide +kernel
theorem dX4_takeTurns_17 : decode cX4_takeTurns 17 = .ok (.iinc 1 1, 3) := by decide +kernel
theorem dX4_takeTurns_20 : decode cX4_takeTurns 20 = .ok (.goto (-18), 3) := by decide +kernel
theorem dX4_takeTurns_23 : decode cX4_takeTurns 23 = .ok (.iconst 0, 1) := by decide +kernel
theorem dX4_takeTurns_24 : decode cX4_takeTurns 24 = .ok (.istore_n 1, 1) := by decide +kernel
theorem dX4_takeTurns_25 : decode cX4_takeTurns 25 = .ok (.iload_n 1, 1) := by decide +kernel
theorem dX4_takeTurns_26 : decode cX4_takeTurns 26 = .ok (.iconst 4, 1) := by decide +kernel
theorem dX4_takeTurns_27 : decode cX4_takeTurns 27 = .ok (.if_icmp .ge 28, 3) := by decide +kernel
theorem dX4_takeTurns_30 : decode cX4_takeTurns 30 = .ok (.aload_n 0, 1) := by decide +kernel
theorem dX4_takeTurns_31 : decode cX4_takeTurns 31 = .ok (.invokevirtual 196, 3) := by decide +kernel
theorem dX4_takeTurns_34 : decode cX4_takeTurns 34 = .ok (.astore_n 2, 1) := by decide +kernel
theorem dX4_takeTurns_35 : decode cX4_takeTurns 35 = .ok (.aload_n 2, 1) := by decide +kernel
theorem dX4_takeTurns_36 : decode cX4_takeTurns 36 = .ok (.ifnull 13, 3) := by decide +kernel
theorem dX4_takeTurns_39 : decode cX4_takeTurns 39 = .ok (.aload_n 2, 1) := by decide +kernel
theorem dX4_takeTurns_40 : decode cX4_takeTurns 40 = .ok (.iconst 1, 1) := by decide +kernel
theorem dX4_takeTurns_41 : decode cX4_takeTurns 41 = .ok (.putfield 192, 3) := by decide +kernel
theorem dX4_takeTurns_44 : decode cX4_takeTurns 44 = .ok (.aload_n 0, 1) := by decide +kernel
theorem dX4_takeTurns_45 : decode cX4_takeTurns 45 = .ok (.aload_n 2, 1) := by decide +kernel
theorem dX4_takeTurns_46 : decode cX4_takeTurns 46 = .ok (.invokevirtual 200, 3) := by decide +kernel
theorem dX4_takeTurns_49 : decode cX4_takeTurns 49 = .ok (.iinc 1 1, 3) := by decide +kernel
theorem dX4_takeTurns_52 : decode cX4_takeTurns 52 = .ok (.goto (-27), 3) := by decide +kernel
theorem dX4_takeTurns_55 : decode cX4_takeTurns 55 = .ok (.return_, 1) := by decide +kernel
theorem dX4_nextInTurn_0 : decode cX4_nextInTurn 0 = .ok (.aconst_null, 1) := by decide +kernel
theorem dX4_nextInTurn_1 : decode cX4_nextInTurn 1 = .ok (.astore_n 1, 1) := by decide +kernel
theorem dX4_nextInTurn_2 : decode cX4_nextInTurn 2 = .ok (.iconst 0, 1) := by decide +kernel
theorem dX4_nextInTurn_3 : decode cX4_nextInTurn 3 = .ok (.istore_n 2, 1) := by decide +kernel
theorem dX4_nextInTurn_4 : decode cX4_nextInTurn 4 = .ok (.iload_n 2, 1) := by decide +kernel
theorem dX4_nextInTurn_5 : decode cX4_nextInTurn 5 = .ok (.iconst 4, 1) := by decide +kernel
theorem dX4_nextInTurn_6 : decode cX4_nextInTurn 6 = .ok (.if_icmp .ge 41, 3) := by decide +kernel
theorem dX4_nextInTurn_9 : decode cX4_nextInTurn 9 = .ok (.aload_n 0, 1) := by decide +kernel
theorem dX4_nextInTurn_10 : decode cX4_nextInTurn 10 = .ok (.getfield 37, 3) := by decide +kernel
theorem dX4_nextInTurn_13 : decode cX4_nextInTurn 13 = .ok (.iload_n 2, 1) := by decide +kernel
theorem dX4_nextInTurn_14 : decode cX4_nextInTurn 14 = .ok (.aaload, 1) := by decide +kernel
theorem dX4_nextInTurn_15 : decode cX4_nextInTurn 15 = .ok (.astore_n 3, 1) := by decide +kernel
theorem dX4_nextInTurn_16 : decode cX4_nextInTurn 16 = .ok (.aload_n 3, 1) := by decide +kernel
theorem dX4_nextInTurn_17 : decode cX4_nextInTurn 17 = .ok (.getfield 192, 3) := by decide +kernel
theorem dX4_nextInTurn_20 : decode cX4_nextInTurn 20 = .ok (.ifCond .ne 21, 3) := by decide +kernel
theorem dX4_nextInTurn_23 : decode cX4_nextInTurn 23 = .ok (.aload_n 1, 1) := by decide +kernel
theorem dX4_nextInTurn_24 : decode cX4_nextInTurn 24 = .ok (.ifnull 15, 3) := by decide +kernel
theorem dX4_nextInTurn_27 : decode cX4_nextInTurn 27 = .ok (.aload_n 3, 1) := by decide +kernel
theorem dX4_nextInTurn_28 : decode cX4_nextInTurn 28 = .ok (.getfield 136, 3) := by decide +kernel
theorem dX4_nextInTurn_31 : decode cX4_nextInTurn 31 = .ok (.aload_n 1, 1) := by decide +kernel
theorem dX4_nextInTurn_32 : decode cX4_nextInTurn 32 = .ok (.getfield 136, 3) := by decide +kernel
theorem dX4_nextInTurn_35 : decode cX4_nextInTurn 35 = .ok (.lcmp, 1) := by decide +kernel
theorem dX4_nextInTurn_36 : decode cX4_nextInTurn 36 = .ok (.ifCond .ge 5, 3) := by decide +kernel
theorem dX4_nextInTurn_39 : decode cX4_nextInTurn 39 = .ok (.aload_n 3, 1) := by decide +kernel
theorem dX4_nextInTurn_40 : decode cX4_nextInTurn 40 = .ok (.astore_n 1, 1) := by decide +kernel
theorem dX4_nextInTurn_41 : decode cX4_nextInTurn 41 = .ok (.iinc 2 1, 3) := by decide +kernel
theorem dX4_nextInTurn_44 : decode cX4_nextInTurn 44 = .ok (.goto (-40), 3) := by decide +kernel
theorem dX4_nextInTurn_47 : decode cX4_nextInTurn 47 = .ok (.aload_n 1, 1) := by decide +kernel
theorem dX4_nextInTurn_48 : decode cX4_nextInTurn 48 = .ok (.areturn, 1) := by decide +kernel
set_option maxRecDepth 20000 in
theorem ggX4_putFirstOn_X1_first : GoodIn wsX4_putFirstOn wsX1_first := goodIn_r _ [11, 12, 13, 51, 52, 53, 54, 55] (by decide +kernel) (by decide +kernel)
set_option maxRecDepth 20000 in
theorem gX4_putFirstOn_X1_first : GoodIn wsX4_putFirstOn (wsV RX4 204 RX1 yX1_first wsX1_first) := goodIn_app (goodIn_of _ (by decide +kernel)) ggX4_putFirstOn_X1_first
set_option maxRecDepth 20000 in
theorem ggX4_putFirstOn_X4_trayAt : GoodIn wsX4_putFirstOn wsX4_trayAt := goodIn_r _ [18, 19, 20, 64, 65, 66, 67, 68, 69, 70, 71, 72, 73, 74, 75, 76] (by decide +kernel) (by decide +kernel)
set_option maxRecDepth 20000 in
theorem gX4_putFirstOn_X4_trayAt : GoodIn wsX4_putFirstOn (wsV RX4 168 RX4 yX4_trayAt wsX4_trayAt) := goodIn_app (goodIn_of _ (by decide +kernel)) ggX4_putFirstOn_X4_trayAt
set_option maxRecDepth 20000 in
theorem ggX4_putFirstOn_X4_isFreeFor : GoodIn wsX4_putFirstOn wsX4_isFreeFor := goodIn_r _ [24, 25, 20, 26, 27, 28, 17, 29, 30, 31, 32, 33, 34, 35, 36, 37, 38, 56, 57, 58, 59, 60, 61, 62, 63, 64, 65, 66, 67, 68, 69, 70, 71, 72, 73, 74, 75, 76] (by decide +kernel) (by decide +kernel)
set_option maxRecDepth 20000 in
theorem gX4_putFirstOn_X4_isFreeFor : GoodIn wsX4_putFirstOn (wsV RX4 209 RX4 yX4_isFreeFor wsX4_isFreeFor) := goodIn_app (goodIn_of _ (by decide +kernel)) ggX4_putFirstOn_X4_isFreeFor
set_option maxRecDepth 20000 in
theorem ggX4_putFirstOn_X1_removeFirst : GoodIn wsX4_putFirstOn wsX1_removeFirst := goodIn_r _ [42, 12, 13, 51, 52, 53, 54, 55] (by decide +kernel) (by decide +kernel)
set_option maxRecDepth 20000 in
theorem gX4_putFirstOn_X1_removeFirst : GoodIn wsX4_putFirstOn (wsV RX4 213 RX1 yX1_removeFirst wsX1_removeFirst) := goodIn_app (goodIn_of _ (by decide +kernel)) ggX4_putFirstOn_X1_removeFirst
set_option maxRecDepth 20000 in
theorem ggX4_putFirstOn_X4_setTraysOf : GoodIn wsX4_putFirstOn wsX4_setTraysOf := goodIn_r _ [46, 3, 25, 47, 48, 49, 17, 50, 20, 30, 35, 36, 37, 38, 56, 57, 58, 59, 60, 61, 62, 63, 64, 65, 66, 67, 68, 69, 70, 71, 72, 73, 74, 75, 76] (by decide +kernel) (by decide +kernel)
set_option maxRecDepth 20000 in
theorem gX4_putFirstOn_X4_setTraysOf : GoodIn wsX4_putFirstOn (wsV RX4 185 RX4 yX4_setTraysOf wsX4_setTraysOf) := goodIn_app (goodIn_of _ (by decide +kernel)) ggX4_putFirstOn_X4_setTraysOf
theorem dX4_putFirstOn_0 : decode cX4_putFirstOn 0 = .ok (.aload_n 1, 1) := by decide +kernel
theorem dX4_putFirstOn_1 : decode cX4_putFirstOn 1 = .ok (.invokevirtual 204, 3) := by decide +kernel
theorem dX4_putFirstOn_4 : decode cX4_putFirstOn 4 = .ok (.astore_n 2, 1) := by decide +kernel
theorem dX4_putFirstOn_5 : decode cX4_putFirstOn 5 = .ok (.aload_n 0, 1) := by decide +kernel
theorem dX4_putFirstOn_6 : decode cX4_putFirstOn 6 = .ok (.aload_n 1, 1) := by decide +kernel
theorem dX4_putFirstOn_7 : decode cX4_putFirstOn 7 = .ok (.getfield 208, 3) := by decide +kernel
theorem dX4_putFirstOn_10 : decode cX4_putFirstOn 10 = .ok (.invokevirtual 168, 3) := by decide +kernel
theorem dX4_putFirstOn_13 : decode cX4_putFirstOn 13 = .ok (.istore_n 3, 1) := by decide +kernel
theorem dX4_putFirstOn_14 : decode cX4_putFirstOn 14 = .ok (.aload_n 2, 1) := by decide +kernel
theorem dX4_putFirstOn_15 : decode cX4_putFirstOn 15 = .ok (.ifnull 12, 3) := by decide +kernel
theorem dX4_putFirstOn_18 : decode cX4_putFirstOn 18 = .ok (.aload_n 0, 1) := by decide +kernel
theorem dX4_putFirstOn_19 : decode cX4_putFirstOn 19 = .ok (.aload_n 2, 1) := by decide +kernel
theorem dX4_putFirstOn_20 : decode cX4_putFirstOn 20 = .ok (.iload_n 3, 1) := by decide +kernel
theorem dX4_putFirstOn_21 : decode cX4_putFirstOn 21 = .ok (.invokevirtual 209, 3) := by decide +kernel
theorem dX4_putFirstOn_24 : decode cX4_putFirstOn 24 = .ok (.ifCond .ne 4, 3) := by decide +kernel
theorem dX4_putFirstOn_27 : decode cX4_putFirstOn 27 = .ok (.return_, 1) := by decide +kernel
theorem dX4_putFirstOn_28 : decode cX4_putFirstOn 28 = .ok (.aload_n 1, 1) := by decide +kernel
theorem dX4_putFirstOn_29 : decode cX4_putFirstOn 29 = .ok (.invokevirtual 213, 3) := by decide +kernel
theorem dX4_putFirstOn_32 : decode cX4_putFirstOn 32 = .ok (.aload_n 1, 1) := by decide +kernel
theorem dX4_putFirstOn_33 : decode cX4_putFirstOn 33 = .ok (.dup, 1) := by decide +kernel
theorem dX4_putFirstOn_34 : decode cX4_putFirstOn 34 = .ok (.getfield 136, 3) := by decide +kernel
theorem dX4_putFirstOn_37 : decode cX4_putFirstOn 37 = .ok (.lconst 1, 1) := by decide +kernel
theorem dX4_putFirstOn_38 : decode cX4_putFirstOn 38 = .ok (.ladd, 1) := by decide +kernel
theorem dX4_putFirstOn_39 : decode cX4_putFirstOn 39 = .ok (.putfield 136, 3) := by decide +kernel
theorem dX4_putFirstOn_42 : decode cX4_putFirstOn 42 = .ok (.aload_n 2, 1) := by decide +kernel
theorem dX4_putFirstOn_43 : decode cX4_putFirstOn 43 = .ok (.iload_n 3, 1) := by decide +kernel
theorem dX4_putFirstOn_44 : decode cX4_putFirstOn 44 = .ok (.putfield 133, 3) := by decide +kernel
theorem dX4_putFirstOn_47 : decode cX4_putFirstOn 47 = .ok (.aload_n 2, 1) := by decide +kernel
theorem dX4_putFirstOn_48 : decode cX4_putFirstOn 48 = .ok (.getstatic 125, 3) := by decide +kernel
theorem dX4_putFirstOn_51 : decode cX4_putFirstOn 51 = .ok (.putfield 121, 3) := by decide +kernel
theorem dX4_putFirstOn_54 : decode cX4_putFirstOn 54 = .ok (.aload_n 0, 1) := by decide +kernel
theorem dX4_putFirstOn_55 : decode cX4_putFirstOn 55 = .ok (.aload_n 2, 1) := by decide +kernel
theorem dX4_putFirstOn_56 : decode cX4_putFirstOn 56 = .ok (.aload_n 2, 1) := by decide +kernel
theorem dX4_putFirstOn_57 : decode cX4_putFirstOn 57 = .ok (.invokevirtual 185, 3) := by decide +kernel
theorem dX4_putFirstOn_60 : decode cX4_putFirstOn 60 = .ok (.aload_n 0, 1) := by decide +kernel
theorem dX4_putFirstOn_61 : decode cX4_putFirstOn 61 = .ok (.dup, 1) := by decide +kernel
theorem dX4_putFirstOn_62 : decode cX4_putFirstOn 62 = .ok (.getfield 153, 3) := by decide +kernel
theorem dX4_putFirstOn_65 : decode cX4_putFirstOn 65 = .ok (.iconst 1, 1) := by decide +kernel
theorem dX4_putFirstOn_66 : decode cX4_putFirstOn 66 = .ok (.iadd, 1) := by decide +kernel
theorem dX4_putFirstOn_67 : decode cX4_putFirstOn 67 = .ok (.putfield 153, 3) := by decide +kernel
theorem dX4_putFirstOn_70 : decode cX4_putFirstOn 70 = .ok (.return_, 1) := by decide +kernel
set_option maxRecDepth 20000 in
theorem ggX4_isFreeFor_X4_itemOn : GoodIn wsX4_isFreeFor wsX4_itemOn := goodIn_r _ [7, 8, 9, 10, 11, 6, 12, 2, 25, 26, 27, 28, 29, 30, 31, 32, 33, 34, 35, 36, 37] (by decide +kernel) (by decide +kernel)
set_option maxRecDepth 20000 in
theorem gX4_isFreeFor_X4_itemOn : GoodIn wsX4_isFreeFor (wsV RX4 106 RX4 yX4_itemOn wsX4_itemOn) := goodIn_app (goodIn_of _ (by decide +kernel)) ggX4_isFreeFor_X4_itemOn
set_option maxRecDepth 20000 in
theorem ggX4_isFreeFor_X4_trayBehind : GoodIn wsX4_isFreeFor wsX4_trayBehind := goodIn_r _ [16, 2, 25, 26, 27, 28, 29, 30, 31, 32, 33, 34, 35, 36, 37] (by decide +kernel) (by decide +kernel)
set_option maxRecDepth 20000 in
theorem gX4_isFreeFor_X4_trayBehind : GoodIn wsX4_isFreeFor (wsV RX4 219 RX4 yX4_trayBehind wsX4_trayBehind) := goodIn_app (goodIn_of _ (by decide +kernel)) ggX4_isFreeFor_X4_trayBehind
theorem dX4_isFreeFor_0 : decode cX4_isFreeFor 0 = .ok (.aload_n 0, 1) := by decide +kernel
theorem dX4_isFreeFor_1 : decode cX4_isFreeFor 1 = .ok (.iload_n 2, 1) := by decide +kernel
theorem dX4_isFreeFor_2 : decode cX4_isFreeFor 2 = .ok (.invokevirtual 106, 3) := by decide +kernel
theorem dX4_isFreeFor_5 : decode cX4_isFreeFor 5 = .ok (.ifnull 5, 3) := by decide +kernel
theorem dX4_isFreeFor_8 : decode cX4_isFreeFor 8 = .ok (.iconst 0, 1) := by decide +kernel
theorem dX4_isFreeFor_9 : decode cX4_isFreeFor 9 = .ok (.ireturn, 1) := by decide +kernel
theorem dX4_isFreeFor_10 : decode cX4_isFreeFor 10 = .ok (.aload_n 1, 1) := by decide +kernel
theorem dX4_isFreeFor_11 : decode cX4_isFreeFor 11 = .ok (.getfield 216, 3) := by decide +kernel
theorem dX4_isFreeFor_14 : decode cX4_isFreeFor 14 = .ok (.iconst 2, 1) := by decide +kernel
theorem dX4_isFreeFor_15 : decode cX4_isFreeFor 15 = .ok (.if_icmp .lt 23, 3) := by decide +kernel
theorem dX4_isFreeFor_18 : decode cX4_isFreeFor 18 = .ok (.aload_n 0, 1) := by decide +kernel
theorem dX4_isFreeFor_19 : decode cX4_isFreeFor 19 = .ok (.getfield 13, 3) := by decide +kernel
theorem dX4_isFreeFor_22 : decode cX4_isFreeFor 22 = .ok (.iconst 1, 1) := by decide +kernel
theorem dX4_isFreeFor_23 : decode cX4_isFreeFor 23 = .ok (.if_icmp .le 19, 3) := by decide +kernel
theorem dX4_isFreeFor_26 : decode cX4_isFreeFor 26 = .ok (.aload_n 0, 1) := by decide +kernel
theorem dX4_isFreeFor_27 : decode cX4_isFreeFor 27 = .ok (.aload_n 0, 1) := by decide +kernel
theorem dX4_isFreeFor_28 : decode cX4_isFreeFor 28 = .ok (.iload_n 2, 1) := by decide +kernel
theorem dX4_isFreeFor_29 : decode cX4_isFreeFor 29 = .ok (.invokevirtual 219, 3) := by decide +kernel
theorem dX4_isFreeFor_32 : decode cX4_isFreeFor 32 = .ok (.invokevirtual 106, 3) := by decide +kernel
theorem dX4_isFreeFor_35 : decode cX4_isFreeFor 35 = .ok (.ifnonnull 7, 3) := by decide +kernel
theorem dX4_isFreeFor_38 : decode cX4_isFreeFor 38 = .ok (.iconst 1, 1) := by decide +kernel
theorem dX4_isFreeFor_39 : decode cX4_isFreeFor 39 = .ok (.goto 4, 3) := by decide +kernel
theorem dX4_isFreeFor_42 : decode cX4_isFreeFor 42 = .ok (.iconst 0, 1) := by decide +kernel
theorem dX4_isFreeFor_43 : decode cX4_isFreeFor 43 = .ok (.ireturn, 1) := by decide +kernel
set_option maxRecDepth 20000 in
theorem ggX4_setTraysOf_X4_setTray : GoodIn wsX4_setTraysOf wsX4_setTray := goodIn_r _ [7, 8, 9, 22, 23, 24, 25, 26, 27, 28, 29, 30, 31, 32, 33, 34] (by decide +kernel) (by decide +kernel)
set_option maxRecDepth 20000 in
theorem gX4_setTraysOf_X4_setTray : GoodIn wsX4_setTraysOf (wsV RX4 222 RX4 yX4_setTray wsX4_setTray) := goodIn_app (goodIn_of _ (by decide +kernel)) ggX4_setTraysOf_X4_setTray
set_option maxRecDepth 20000 in
theorem ggX4_setTraysOf_X4_trayBehind : GoodIn wsX4_setTraysOf wsX4_trayBehind := goodIn_r _ [13, 8, 22, 23, 24, 25, 26, 27, 28, 29, 30, 31, 32, 33, 34] (by decide +kernel) (by decide +kernel)
set_option maxRecDepth 20000 in
theorem gX4_setTraysOf_X4_trayBehind : GoodIn wsX4_setTraysOf (wsV RX4 219 RX4 yX4_trayBehind wsX4_trayBehind) := goodIn_app (goodIn_of _ (by decide +kernel)) ggX4_setTraysOf_X4_trayBehind
theorem dX4_setTraysOf_0 : decode cX4_setTraysOf 0 = .ok (.aload_n 0, 1) := by decide +kernel
theorem dX4_setTraysOf_1 : decode cX4_setTraysOf 1 = .ok (.aload_n 1, 1) := by decide +kernel
theorem dX4_setTraysOf_2 : decode cX4_setTraysOf 2 = .ok (.getfield 133, 3) := by decide +kernel
theorem dX4_setTraysOf_5 : decode cX4_setTraysOf 5 = .ok (.aload_n 2, 1) := by decide +kernel
theorem dX4_setTraysOf_6 : decode cX4_setTraysOf 6 = .ok (.invokevirtual 222, 3) := by decide +kernel
theorem dX4_setTraysOf_9 : decode cX4_setTraysOf 9 = .ok (.aload_n 1, 1) := by decide +kernel
theorem dX4_setTraysOf_10 : decode cX4_setTraysOf 10 = .ok (.getfield 216, 3) := by decide +kernel
theorem dX4_setTraysOf_13 : decode cX4_setTraysOf 13 = .ok (.iconst 2, 1) := by decide +kernel
theorem dX4_setTraysOf_14 : decode cX4_setTraysOf 14 = .ok (.if_icmp .ne 16, 3) := by decide +kernel
theorem dX4_setTraysOf_17 : decode cX4_setTraysOf 17 = .ok (.aload_n 0, 1) := by decide +kernel
theorem dX4_setTraysOf_18 : decode cX4_setTraysOf 18 = .ok (.aload_n 0, 1) := by decide +kernel
theorem dX4_setTraysOf_19 : decode cX4_setTraysOf 19 = .ok (.aload_n 1, 1) := by decide +kernel
theorem dX4_setTraysOf_20 : decode cX4_setTraysOf 20 = .ok (.getfield 133, 3) := by decide +kernel
theorem dX4_setTraysOf_23 : decode cX4_setTraysOf 23 = .ok (.invokevirtual 219, 3) := by decide +kernel
theorem dX4_setTraysOf_26 : decode cX4_setTraysOf 26 = .ok (.aload_n 2, 1) := by decide +kernel
theorem dX4_setTraysOf_27 : decode cX4_setTraysOf 27 = .ok (.invokevirtual 222, 3) := by decide +kernel
theorem dX4_setTraysOf_30 : decode cX4_setTraysOf 30 = .ok (.return_, 1) := by decide +kernel
theorem dX4_setTray_0 : decode cX4_setTray 0 = .ok (.iload_n 1, 1) := by decide +kernel
theorem dX4_setTray_1 : decode cX4_setTray 1 = .ok (.ifCond .lt 18, 3) := by decide +kernel
theorem dX4_setTray_4 : decode cX4_setTray 4 = .ok (.iload_n 1, 1) := by decide +kernel
theorem dX4_setTray_5 : decode cX4_setTray 5 = .ok (.aload_n 0, 1) := by decide +kernel
theorem dX4_setTray_6 : decode cX4_setTray 6 = .ok (.getfield 13, 3) := by decide +kernel
theorem dX4_setTray_9 : decode cX4_setTray 9 = .ok (.if_icmp .ge 10, 3) := by decide +kernel
theorem dX4_setTray_12 : decode cX4_setTray 12 = .ok (.aload_n 0, 1) := by decide +kernel
theorem dX4_setTray_13 : decode cX4_setTray 13 = .ok (.getfield 22, 3) := by decide +kernel
theorem dX4_setTray_16 : decode cX4_setTray 16 = .ok (.iload_n 1, 1) := by decide +kernel
theorem dX4_setTray_17 : decode cX4_setTray 17 = .ok (.aload_n 2, 1) := by decide +kernel
theorem dX4_setTray_18 : decode cX4_setTray 18 = .ok (.aastore, 1) := by decide +kernel
theorem dX4_setTray_19 : decode cX4_setTray 19 = .ok (.return_, 1) := by decide +kernel
theorem dX4_trayAt_0 : decode cX4_trayAt 0 = .ok (.iload_n 1, 1) := by decide +kernel
theorem dX4_trayAt_1 : decode cX4_trayAt 1 = .ok (.aload_n 0, 1) := by decide +kernel
theorem dX4_trayAt_2 : decode cX4_trayAt 2 = .ok (.getfield 150, 3) := by decide +kernel
theorem dX4_trayAt_5 : decode cX4_trayAt 5 = .ok (.isub, 1) := by decide +kernel
theorem dX4_trayAt_6 : decode cX4_trayAt 6 = .ok (.istore_n 2, 1) := by decide +kernel
theorem dX4_trayAt_7 : decode cX4_trayAt 7 = .ok (.iload_n 2, 1) := by decide +kernel
theorem dX4_trayAt_8 : decode cX4_trayAt 8 = .ok (.ifCond .ge 12, 3) := by decide +kernel
theorem dX4_trayAt_11 : decode cX4_trayAt 11 = .ok (.iload_n 2, 1) := by decide +kernel
theorem dX4_trayAt_12 : decode cX4_trayAt 12 = .ok (.aload_n 0, 1) := by decide +kernel
theorem dX4_trayAt_13 : decode cX4_trayAt 13 = .ok (.getfield 13, 3) := by decide +kernel
theorem dX4_trayAt_16 : decode cX4_trayAt 16 = .ok (.iadd, 1) := by decide +kernel
theorem dX4_trayAt_17 : decode cX4_trayAt 17 = .ok (.goto 4, 3) := by decide +kernel
theorem dX4_trayAt_20 : decode cX4_trayAt 20 = .ok (.iload_n 2, 1) := by decide +kernel
theorem dX4_trayAt_21 : decode cX4_trayAt 21 = .ok (.ireturn, 1) := by decide +kernel
theorem dX4_trayBehind_0 : decode cX4_trayBehind 0 = .ok (.iload_n 1, 1) := by decide +kernel
theorem dX4_trayBehind_1 : decode cX4_trayBehind 1 = .ok (.ifCond .le 9, 3) := by decide +kernel
theorem dX4_trayBehind_4 : decode cX4_trayBehind 4 = .ok (.iload_n 1, 1) := by decide +kernel
theorem dX4_trayBehind_5 : decode cX4_trayBehind 5 = .ok (.iconst 1, 1) := by decide +kernel
theorem dX4_trayBehind_6 : decode cX4_trayBehind 6 = .ok (.isub, 1) := by decide +kernel
theorem dX4_trayBehind_7 : decode cX4_trayBehind 7 = .ok (.goto 9, 3) := by decide +kernel
theorem dX4_trayBehind_10 : decode cX4_trayBehind 10 = .ok (.aload_n 0, 1) := by decide +kernel
theorem dX4_trayBehind_11 : decode cX4_trayBehind 11 = .ok (.getfield 13, 3) := by decide +kernel
theorem dX4_trayBehind_14 : decode cX4_trayBehind 14 = .ok (.iconst 1, 1) := by decide +kernel
theorem dX4_trayBehind_15 : decode cX4_trayBehind 15 = .ok (.isub, 1) := by decide +kernel
theorem dX4_trayBehind_16 : decode cX4_trayBehind 16 = .ok (.ireturn, 1) := by decide +kernel
theorem dX5_init_0 : decode cX5_init 0 = .ok (.aload_n 0, 1) := by decide +kernel
theorem dX5_init_1 : decode cX5_init 1 = .ok (.invokespecial 1, 3) := by decide +kernel
theorem dX5_init_4 : decode cX5_init 4 = .ok (.aload_n 0, 1) := by decide +kernel
theorem dX5_init_5 : decode cX5_init 5 = .ok (.sipush 200, 3) := by decide +kernel
theorem dX5_init_8 : decode cX5_init 8 = .ok (.newarray .int, 2) := by decide +kernel
theorem dX5_init_10 : decode cX5_init 10 = .ok (.putfield 7, 3) := by decide +kernel
theorem dX5_init_13 : decode cX5_init 13 = .ok (.aload_n 0, 1) := by decide +kernel
theorem dX5_init_14 : decode cX5_init 14 = .ok (.sipush 200, 3) := by decide +kernel
theorem dX5_init_17 : decode cX5_init 17 = .ok (.newarray .int, 2) := by decide +kernel
theorem dX5_init_19 : decode cX5_init 19 = .ok (.putfield 13, 3) := by decide +kernel
theorem dX5_init_22 : decode cX5_init 22 = .ok (.aload_n 0, 1) := by decide +kernel
theorem dX5_init_23 : decode cX5_init 23 = .ok (.iconst 1, 1) := by decide +kernel
theorem dX5_init_24 : decode cX5_init 24 = .ok (.putfield 16, 3) := by decide +kernel
theorem dX5_init_27 : decode cX5_init 27 = .ok (.aload_n 0, 1) := by decide +kernel
theorem dX5_init_28 : decode cX5_init 28 = .ok (.sipush 401, 3) := by decide +kernel
theorem dX5_init_31 : decode cX5_init 31 = .ok (.newarray .int, 2) := by decide +kernel
theorem dX5_init_33 : decode cX5_init 33 = .ok (.putfield 20, 3) := by decide +kernel
theorem dX5_init_36 : decode cX5_init 36 = .ok (.aload_n 0, 1) := by decide +kernel
theorem dX5_init_37 : decode cX5_init 37 = .ok (.sipush 401, 3) := by decide +kernel
theorem dX5_init_40 : decode cX5_init 40 = .ok (.newarray .int, 2) := by decide +kernel
theorem dX5_init_42 : decode cX5_init 42 = .ok (.putfield 23, 3) := by decide +kernel
theorem dX5_init_45 : decode cX5_init 45 = .ok (.aload_n 0, 1) := by decide +kernel
theorem dX5_init_46 : decode cX5_init 46 = .ok (.sipush 401, 3) := by decide +kernel
theorem dX5_init_49 : decode cX5_init 49 = .ok (.newarray .int, 2) := by decide +kernel
theorem dX5_init_51 : decode cX5_init 51 = .ok (.putfield 26, 3) := by decide +kernel
theorem dX5_init_54 : decode cX5_init 54 = .ok (.aload_n 0, 1) := by decide +kernel
theorem dX5_init_55 : decode cX5_init 55 = .ok (.sipush 401, 3) := by decide +kernel
theorem dX5_init_58 : decode cX5_init 58 = .ok (.newarray .int, 2) := by decide +kernel
theorem dX5_init_60 : decode cX5_init 60 = .ok (.putfield 29, 3) := by decide +kernel
theorem dX5_init_63 : decode cX5_init 63 = .ok (.aload_n 0, 1) := by decide +kernel
theorem dX5_init_64 : decode cX5_init 64 = .ok (.sipush 401, 3) := by decide +kernel
theorem dX5_init_67 : decode cX5_init 67 = .ok (.newarray .int, 2) := by decide +kernel
theorem dX5_init_69 : decode cX5_init 69 = .ok (.putfield 32, 3) := by decide +kernel
theorem dX5_init_72 : decode cX5_init 72 = .ok (.aload_n 0, 1) := by decide +kernel
theorem dX5_init_73 : decode cX5_init 73 = .ok (.sipush 401, 3) := by decide +kernel
theorem dX5_init_76 : decode cX5_init 76 = .ok (.newarray .int, 2) := by decide +kernel
theorem dX5_init_78 : decode cX5_init 78 = .ok (.putfield 35, 3) := by decide +kernel
theorem dX5_init_81 : decode cX5_init 81 = .ok (.aload_n 0, 1) := by decide +kernel
theorem dX5_init_82 : decode cX5_init 82 = .ok (.iconst 4, 1) := by decide +kernel
theorem dX5_init_83 : decode cX5_init 83 = .ok (.newarray .long, 2) := by decide +kernel
theorem dX5_init_85 : decode cX5_init 85 = .ok (.putfield 38, 3) := by decide +kernel
theorem dX5_init_88 : decode cX5_init 88 = .ok (.aload_n 0, 1) := by decide +kernel
theorem dX5_init_89 : decode cX5_init 89 = .ok (.bipush 16, 2) := by decide +kernel
theorem dX5_init_91 : decode cX5_init 91 = .ok (.newarray .int, 2) := by decide +kernel
theorem dX5_init_93 : decode cX5_init 93 = .ok (.putfield 42, 3) := by decide +kernel
theorem dX5_init_96 : decode cX5_init 96 = .ok (.aload_n 0, 1) := by decide +kernel
theorem dX5_init_97 : decode cX5_init 97 = .ok (.bipush 16, 2) := by decide +kernel
theorem dX5_init_99 : decode cX5_init 99 = .ok (.newarray .boolean, 2) := by decide +kernel
theorem dX5_init_101 : decode cX5_init 101 = .ok (.putfield 45, 3) := by decide +kernel
theorem dX5_init_104 : decode cX5_init 104 = .ok (.aload_n 0, 1) := by decide +kernel
theorem dX5_init_105 : decode cX5_init 105 = .ok (.sipush 400, 3) := by decide +kernel
theorem dX5_init_108 : decode cX5_init 108 = .ok (.newarray .int, 2) := by decide +kernel
theorem dX5_init_110 : decode cX5_init 110 = .ok (.putfield 49, 3) := by decide +kernel
theorem dX5_init_113 : decode cX5_init 113 = .ok (.aload_n 0, 1) := by decide +kernel
theorem dX5_init_114 : decode cX5_init 114 = .ok (.sipush 400, 3) := by decide +kernel
theorem dX5_init_117 : decode cX5_init 117 = .ok (.newarray .int, 2) := by decide +kernel
theorem dX5_init_119 : decode cX5_init 119 = .ok (.putfield 52, 3) := by decide +kernel
theorem dX5_init_122 : decode cX5_init 122 = .ok (.aload_n 0, 1) := by decide +kernel
theorem dX5_init_123 : decode cX5_init 123 = .ok (.sipush 400, 3) := by decide +kernel
theorem dX5_init_126 : decode cX5_init 126 = .ok (.newarray .int, 2) := by decide +kernel
theorem dX5_init_128 : decode cX5_init 128 = .ok (.putfield 55, 3) := by decide +kernel
theorem dX5_init_131 : decode cX5_init 131 = .ok (.aload_n 0, 1) := by decide +kernel
theorem dX5_init_132 : decode cX5_init 132 = .ok (.iconst 4, 1) := by decide +kernel
theorem dX5_init_133 : decode cX5_init 133 = .ok (.newarray .boolean, 2) := by decide +kernel
theorem dX5_init_135 : decode cX5_init 135 = .ok (.putfield 58, 3) := by decide +kernel
theorem dX5_init_138 : decode cX5_init 138 = .ok (.aload_n 0, 1) := by decide +kernel
theorem dX5_init_139 : decode cX5_init 139 = .ok (.iload_n 1, 1) := by decide +kernel
theorem dX5_init_140 : decode cX5_init 140 = .ok (.iconst 1, 1) := by decide +kernel
theorem dX5_init_141 : decode cX5_init 141 = .ok (.if_icmp .ge 7, 3) := by decide +kernel
theorem dX5_init_144 : decode cX5_init 144 = .ok (.iconst 1, 1) := by decide +kernel
theorem dX5_init_145 : decode cX5_init 145 = .ok (.goto 17, 3) := by decide +kernel
theorem dX5_init_148 : decode cX5_init 148 = .ok (.iload_n 1, 1) := by decide +kernel
theorem dX5_init_149 : decode cX5_init 149 = .ok (.sipush 200, 3) := by decide +kernel
theorem dX5_init_152 : decode cX5_init 152 = .ok (.if_icmp .le 9, 3) := by decide +kernel
theorem dX5_init_155 : decode cX5_init 155 = .ok (.sipush 200, 3) := by decide +kernel
theorem dX5_init_158 : decode cX5_init 158 = .ok (.goto 4, 3) := by decide +kernel
theorem dX5_init_161 : decode cX5_init 161 = .ok (.iload_n 1, 1) := by decide +kernel
theorem dX5_init_162 : decode cX5_init 162 = .ok (.putfield 61, 3) := by decide +kernel
theorem dX5_init_165 : decode cX5_init 165 = .ok (.aload_n 0, 1) := by decide +kernel
theorem dX5_init_166 : decode cX5_init 166 = .ok (.iload_n 2, 1) := by decide +kernel
theorem dX5_init_167 : decode cX5_init 167 = .ok (.iconst 1, 1) := by decide +kernel
theorem dX5_init_168 : decode cX5_init 168 = .ok (.if_icmp .ge 7, 3) := by decide +kernel
theorem dX5_init_171 : decode cX5_init 171 = .ok (.iconst 1, 1) := by decide +kernel
theorem dX5_init_172 : decode cX5_init 172 = .ok (.goto 15, 3) := by decide +kernel
theorem dX5_init_175 : decode cX5_init 175 = .ok (.iload_n 2, 1) := by decide +kernel
theorem dX5_init_176 : decode cX5_init 176 = .ok (.bipush 20, 2) := by decide +kernel
theorem dX5_init_178 : decode cX5_init 178 = .ok (.if_icmp .le 8, 3) := by decide +kernel
theorem dX5_init_181 : decode cX5_init 181 = .ok (.bipush 20, 2) := by decide +kernel
theorem dX5_init_183 : decode cX5_init 183 = .ok (.goto 4, 3) := by decide +kernel
theorem dX5_init_186 : decode cX5_init 186 = .ok (.iload_n 2, 1) := by decide +kernel
theorem dX5_init_187 : decode cX5_init 187 = .ok (.putfield 64, 3) := by decide +kernel
theorem dX5_init_190 : decode cX5_init 190 = .ok (.iconst 0, 1) := by decide +kernel
theorem dX5_init_191 : decode cX5_init 191 = .ok (.istore_n 3, 1) := by decide +kernel
theorem dX5_init_192 : decode cX5_init 192 = .ok (.iload_n 3, 1) := by decide +kernel
theorem dX5_init_193 : decode cX5_init 193 = .ok (.sipush 200, 3) := by decide +kernel
theorem dX5_init_196 : decode cX5_init 196 = .ok (.if_icmp .ge 16, 3) := by decide +kernel
theorem dX5_init_199 : decode cX5_init 199 = .ok (.aload_n 0, 1) := by decide +kernel
theorem dX5_init_200 : decode cX5_init 200 = .ok (.getfield 7, 3) := by decide +kernel
theorem dX5_init_203 : decode cX5_init 203 = .ok (.iload_n 3, 1) := by decide +kernel
theorem dX5_init_204 : decode cX5_init 204 = .ok (.iload_n 3, 1) := by decide +kernel
theorem dX5_init_205 : decode cX5_init 205 = .ok (.iastore, 1) := by decide +kernel
theorem dX5_init_206 : decode cX5_init 206 = .ok (.iinc 3 1, 3) := by decide +kernel
theorem dX5_init_209 : decode cX5_init 209 = .ok (.goto (-17), 3) := by decide +kernel
theorem dX5_init_212 : decode cX5_init 212 = .ok (.return_, 1) := by decide +kernel
theorem dX5_thrown_0 : decode cX5_thrown 0 = .ok (.aload_n 0, 1) := by decide +kernel
theorem dX5_thrown_1 : decode cX5_thrown 1 = .ok (.getfield 67, 3) := by decide +kernel
theorem dX5_thrown_4 : decode cX5_thrown 4 = .ok (.ireturn, 1) := by decide +kernel
theorem dX5_in_0 : decode cX5_in 0 = .ok (.iload_n 0, 1) := by decide +kernel
theorem dX5_in_1 : decode cX5_in 1 = .ok (.iload_n 1, 1) := by decide +kernel
theorem dX5_in_2 : decode cX5_in 2 = .ok (.if_icmp .lt 12, 3) := by decide +kernel
theorem dX5_in_5 : decode cX5_in 5 = .ok (.iload_n 0, 1) := by decide +kernel
theorem dX5_in_6 : decode cX5_in 6 = .ok (.iload_n 2, 1) := by decide +kernel
theorem dX5_in_7 : decode cX5_in 7 = .ok (.if_icmp .gt 7, 3) := by decide +kernel
theorem dX5_in_10 : decode cX5_in 10 = .ok (.iconst 1, 1) := by decide +kernel
theorem dX5_in_11 : decode cX5_in 11 = .ok (.goto 4, 3) := by decide +kernel
theorem dX5_in_14 : decode cX5_in 14 = .ok (.iconst 0, 1) := by decide +kernel
theorem dX5_in_15 : decode cX5_in 15 = .ok (.ireturn, 1) := by decide +kernel
theorem dX5_waiting_0 : decode cX5_waiting 0 = .ok (.iconst 0, 1) := by decide +kernel
theorem dX5_waiting_1 : decode cX5_waiting 1 = .ok (.istore_n 2, 1) := by decide +kernel
theorem dX5_waiting_2 : decode cX5_waiting 2 = .ok (.iconst 1, 1) := by decide +kernel
theorem dX5_waiting_3 : decode cX5_waiting 3 = .ok (.istore_n 3, 1) := by decide +kernel
theorem dX5_waiting_4 : decode cX5_waiting 4 = .ok (.iload_n 3, 1) := by decide +kernel
theorem dX5_waiting_5 : decode cX5_waiting 5 = .ok (.aload_n 0, 1) := by decide +kernel
theorem dX5_waiting_6 : decode cX5_waiting 6 = .ok (.getfield 70, 3) := by decide +kernel
theorem dX5_waiting_9 : decode cX5_waiting 9 = .ok (.if_icmp .gt 36, 3) := by decide +kernel
theorem dX5_waiting_12 : decode cX5_waiting 12 = .ok (.aload_n 0, 1) := by decide +kernel
theorem dX5_waiting_13 : decode cX5_waiting 13 = .ok (.getfield 26, 3) := by decide +kernel
theorem dX5_waiting_16 : decode cX5_waiting 16 = .ok (.iload_n 3, 1) := by decide +kernel
theorem dX5_waiting_17 : decode cX5_waiting 17 = .ok (.iaload, 1) := by decide +kernel
theorem dX5_waiting_18 : decode cX5_waiting 18 = .ok (.ifCond .ne 19, 3) := by decide +kernel
theorem dX5_waiting_21 : decode cX5_waiting 21 = .ok (.aload_n 0, 1) := by decide +kernel
theorem dX5_waiting_22 : decode cX5_waiting 22 = .ok (.getfield 35, 3) := by decide +kernel
theorem dX5_waiting_25 : decode cX5_waiting 25 = .ok (.iload_n 3, 1) := by decide +kernel
theorem dX5_waiting_26 : decode cX5_waiting 26 = .ok (.iaload, 1) := by decide +kernel
theorem dX5_waiting_27 : decode cX5_waiting 27 = .ok (.iload_n 1, 1) := by decide +kernel
theorem dX5_waiting_28 : decode cX5_waiting 28 = .ok (.if_icmp .ne 9, 3) := by decide +kernel
theorem dX5_waiting_31 : decode cX5_waiting 31 = .ok (.iload_n 2, 1) := by decide +kernel
theorem dX5_waiting_32 : decode cX5_waiting 32 = .ok (.iconst 1, 1) := by decide +kernel
theorem dX5_waiting_33 : decode cX5_waiting 33 = .ok (.iadd, 1) := by decide +kernel
theorem dX5_waiting_34 : decode cX5_waiting 34 = .ok (.goto 4, 3) := by decide +kernel
theorem dX5_waiting_37 : decode cX5_waiting 37 = .ok (.iload_n 2, 1) := by decide +kernel
theorem dX5_waiting_38 : decode cX5_waiting 38 = .ok (.istore_n 2, 1) := by decide +kernel
theorem dX5_waiting_39 : decode cX5_waiting 39 = .ok (.iinc 3 1, 3) := by decide +kernel
theorem dX5_waiting_42 : decode cX5_waiting 42 = .ok (.goto (-38), 3) := by decide +kernel
theorem dX5_waiting_45 : decode cX5_waiting 45 = .ok (.iload_n 2, 1) := by decide +kernel
theorem dX5_waiting_46 : decode cX5_waiting 46 = .ok (.ireturn, 1) := by decide +kernel
set_option maxRecDepth 20000 in
theorem ggX5_induct_X5_in : GoodIn wsX5_induct wsX5_in := goodIn_r _ [9] (by decide +kernel) (by decide +kernel)
set_option maxRecDepth 20000 in
theorem gX5_induct_X5_in : GoodIn wsX5_induct (va_wsS RX5 73 yX5_in wsX5_in) := goodIn_app (goodIn_of _ (by decide +kernel)) ggX5_induct_X5_in
set_option maxRecDepth 20000 in
theorem ggX5_induct_X5_waiting : GoodIn wsX5_induct wsX5_waiting := goodIn_r _ [13, 2, 14, 3, 15, 16, 17, 18, 19, 20, 21, 22, 23, 24, 25, 26, 27, 28, 29, 30, 31, 32, 33, 34, 35, 36] (by decide +kernel) (by decide +kernel)
set_option maxRecDepth 20000 in
theorem gX5_induct_X5_waiting : GoodIn wsX5_induct (wsV RX5 77 RX5 yX5_waiting wsX5_waiting) := goodIn_app (goodIn_of _ (by decide +kernel)) ggX5_induct_X5_waiting
theorem dX5_induct_0 : decode cX5_induct 0 = .ok (.aload_n 0, 1) := by decide +kernel
theorem dX5_induct_1 : decode cX5_induct 1 = .ok (.iconst 0, 1) := by decide +kernel
theorem dX5_induct_2 : decode cX5_induct 2 = .ok (.putfield 67, 3) := by decide +kernel
theorem dX5_induct_5 : decode cX5_induct 5 = .ok (.iload_n 1, 1) := by decide +kernel
theorem dX5_induct_6 : decode cX5_induct 6 = .ok (.iconst 0, 1) := by decide +kernel
theorem dX5_induct_7 : decode cX5_induct 7 = .ok (.iconst 3, 1) := by decide +kernel
theorem dX5_induct_8 : decode cX5_induct 8 = .ok (.invokestatic 73, 3) := by decide +kernel
theorem dX5_induct_11 : decode cX5_induct 11 = .ok (.ifCond .eq 13, 3) := by decide +kernel
theorem dX5_induct_14 : decode cX5_induct 14 = .ok (.iload_n 3, 1) := by decide +kernel
theorem dX5_induct_15 : decode cX5_induct 15 = .ok (.iconst 0, 1) := by decide +kernel
theorem dX5_induct_16 : decode cX5_induct 16 = .ok (.bipush 15, 2) := by decide +kernel
theorem dX5_induct_18 : decode cX5_induct 18 = .ok (.invokestatic 73, 3) := by decide +kernel
theorem dX5_induct_21 : decode cX5_induct 21 = .ok (.ifCond .ne 6, 3) := by decide +kernel
theorem dX5_induct_24 : decode cX5_induct 24 = .ok (.bipush (-11), 2) := by decide +kernel
theorem dX5_induct_26 : decode cX5_induct 26 = .ok (.ireturn, 1) := by decide +kernel
theorem dX5_induct_27 : decode cX5_induct 27 = .ok (.iload_n 2, 1) := by decide +kernel
theorem dX5_induct_28 : decode cX5_induct 28 = .ok (.iconst 1, 1) := by decide +kernel
theorem dX5_induct_29 : decode cX5_induct 29 = .ok (.iconst 2, 1) := by decide +kernel
theorem dX5_induct_30 : decode cX5_induct 30 = .ok (.invokestatic 73, 3) := by decide +kernel
theorem dX5_induct_33 : decode cX5_induct 33 = .ok (.ifCond .ne 6, 3) := by decide +kernel
