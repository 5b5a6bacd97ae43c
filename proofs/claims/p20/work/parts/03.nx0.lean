set_option maxRecDepth 20000 in
theorem ggX0_init_X0_put : GoodIn wsX0_init wsX0_put := goodIn_r _ [21] (by decide +kernel) (by decide +kernel)
set_option maxRecDepth 20000 in
theorem gX0_init_X0_put : GoodIn wsX0_init (va_wsS RX0 37 yX0_put wsX0_put) := goodIn_app (goodIn_of _ (by decide +kernel)) ggX0_init_X0_put
set_option maxRecDepth 20000 in
theorem ggX0_init_X0_layDebts : GoodIn wsX0_init wsX0_layDebts := goodIn_r _ [25, 16, 13, 26, 15, 4, 18, 19, 20, 21, 27, 28, 29, 30, 31, 32, 33, 38, 39, 40, 41, 42, 43, 44, 45, 46, 47, 48] (by decide +kernel) (by decide +kernel)
set_option maxRecDepth 20000 in
theorem gX0_init_X0_layDebts : GoodIn wsX0_init (wsV RX0 41 RX0 yX0_layDebts wsX0_layDebts) := goodIn_app (goodIn_of _ (by decide +kernel)) ggX0_init_X0_layDebts
set_option maxRecDepth 20000 in
theorem ggX0_init_X0_debtNow : GoodIn wsX0_init wsX0_debtNow := goodIn_r _ [37, 16, 26, 27, 28, 20, 29, 38, 39, 40, 41, 42, 43, 44, 45, 46, 47, 48] (by decide +kernel) (by decide +kernel)
set_option maxRecDepth 20000 in
theorem gX0_init_X0_debtNow : GoodIn wsX0_init (wsV RX0 44 RX0 yX0_debtNow wsX0_debtNow) := goodIn_app (goodIn_of _ (by decide +kernel)) ggX0_init_X0_debtNow
theorem dX0_init_0 : decode cX0_init 0 = .ok (.aload_n 0, 1) := by decide +kernel
theorem dX0_init_1 : decode cX0_init 1 = .ok (.invokespecial 3, 3) := by decide +kernel
theorem dX0_init_4 : decode cX0_init 4 = .ok (.aload_n 0, 1) := by decide +kernel
theorem dX0_init_5 : decode cX0_init 5 = .ok (.iload 5, 2) := by decide +kernel
theorem dX0_init_7 : decode cX0_init 7 = .ok (.putfield 9, 3) := by decide +kernel
theorem dX0_init_10 : decode cX0_init 10 = .ok (.aload_n 0, 1) := by decide +kernel
theorem dX0_init_11 : decode cX0_init 11 = .ok (.iload 6, 2) := by decide +kernel
theorem dX0_init_13 : decode cX0_init 13 = .ok (.putfield 15, 3) := by decide +kernel
theorem dX0_init_16 : decode cX0_init 16 = .ok (.aload_n 0, 1) := by decide +kernel
theorem dX0_init_17 : decode cX0_init 17 = .ok (.iconst 0, 1) := by decide +kernel
theorem dX0_init_18 : decode cX0_init 18 = .ok (.iload_n 1, 1) := by decide +kernel
theorem dX0_init_19 : decode cX0_init 19 = .ok (.bipush 120, 2) := by decide +kernel
theorem dX0_init_21 : decode cX0_init 21 = .ok (.invokestatic 18, 3) := by decide +kernel
theorem dX0_init_24 : decode cX0_init 24 = .ok (.invokestatic 24, 3) := by decide +kernel
theorem dX0_init_27 : decode cX0_init 27 = .ok (.putfield 27, 3) := by decide +kernel
theorem dX0_init_30 : decode cX0_init 30 = .ok (.aload_n 0, 1) := by decide +kernel
theorem dX0_init_31 : decode cX0_init 31 = .ok (.bipush 120, 2) := by decide +kernel
theorem dX0_init_33 : decode cX0_init 33 = .ok (.newarray .int, 2) := by decide +kernel
theorem dX0_init_35 : decode cX0_init 35 = .ok (.putfield 30, 3) := by decide +kernel
theorem dX0_init_38 : decode cX0_init 38 = .ok (.aload_n 0, 1) := by decide +kernel
theorem dX0_init_39 : decode cX0_init 39 = .ok (.bipush 121, 2) := by decide +kernel
theorem dX0_init_41 : decode cX0_init 41 = .ok (.newarray .int, 2) := by decide +kernel
theorem dX0_init_43 : decode cX0_init 43 = .ok (.putfield 34, 3) := by decide +kernel
theorem dX0_init_46 : decode cX0_init 46 = .ok (.iload_n 3, 1) := by decide +kernel
theorem dX0_init_47 : decode cX0_init 47 = .ok (.istore 8, 2) := by decide +kernel
theorem dX0_init_49 : decode cX0_init 49 = .ok (.iload 8, 2) := by decide +kernel
theorem dX0_init_51 : decode cX0_init 51 = .ok (.aload_n 0, 1) := by decide +kernel
theorem dX0_init_52 : decode cX0_init 52 = .ok (.getfield 27, 3) := by decide +kernel
theorem dX0_init_55 : decode cX0_init 55 = .ok (.if_icmp .ge 28, 3) := by decide +kernel
theorem dX0_init_58 : decode cX0_init 58 = .ok (.aload_n 0, 1) := by decide +kernel
theorem dX0_init_59 : decode cX0_init 59 = .ok (.getfield 30, 3) := by decide +kernel
theorem dX0_init_62 : decode cX0_init 62 = .ok (.iload 8, 2) := by decide +kernel
theorem dX0_init_64 : decode cX0_init 64 = .ok (.iload_n 2, 1) := by decide +kernel
theorem dX0_init_65 : decode cX0_init 65 = .ok (.iload 4, 2) := by decide +kernel
theorem dX0_init_67 : decode cX0_init 67 = .ok (.iload 8, 2) := by decide +kernel
theorem dX0_init_69 : decode cX0_init 69 = .ok (.bipush 12, 2) := by decide +kernel
theorem dX0_init_71 : decode cX0_init 71 = .ok (.idiv, 1) := by decide +kernel
theorem dX0_init_72 : decode cX0_init 72 = .ok (.imul, 1) := by decide +kernel
theorem dX0_init_73 : decode cX0_init 73 = .ok (.iadd, 1) := by decide +kernel
theorem dX0_init_74 : decode cX0_init 74 = .ok (.invokestatic 37, 3) := by decide +kernel
theorem dX0_init_77 : decode cX0_init 77 = .ok (.iinc 8 1, 3) := by decide +kernel
theorem dX0_init_80 : decode cX0_init 80 = .ok (.goto (-31), 3) := by decide +kernel
theorem dX0_init_83 : decode cX0_init 83 = .ok (.aload_n 0, 1) := by decide +kernel
theorem dX0_init_84 : decode cX0_init 84 = .ok (.invokevirtual 41, 3) := by decide +kernel
theorem dX0_init_87 : decode cX0_init 87 = .ok (.aload_n 0, 1) := by decide +kernel
theorem dX0_init_88 : decode cX0_init 88 = .ok (.aload_n 0, 1) := by decide +kernel
theorem dX0_init_89 : decode cX0_init 89 = .ok (.invokevirtual 44, 3) := by decide +kernel
theorem dX0_init_92 : decode cX0_init 92 = .ok (.i2l, 1) := by decide +kernel
theorem dX0_init_93 : decode cX0_init 93 = .ok (.iload 7, 2) := by decide +kernel
theorem dX0_init_95 : decode cX0_init 95 = .ok (.i2l, 1) := by decide +kernel
theorem dX0_init_96 : decode cX0_init 96 = .ok (.ladd, 1) := by decide +kernel
theorem dX0_init_97 : decode cX0_init 97 = .ok (.putfield 48, 3) := by decide +kernel
theorem dX0_init_100 : decode cX0_init 100 = .ok (.return_, 1) := by decide +kernel
theorem dX0_at_0 : decode cX0_at 0 = .ok (.iload_n 1, 1) := by decide +kernel
theorem dX0_at_1 : decode cX0_at 1 = .ok (.ifCond .lt 15, 3) := by decide +kernel
theorem dX0_at_4 : decode cX0_at 4 = .ok (.iload_n 1, 1) := by decide +kernel
theorem dX0_at_5 : decode cX0_at 5 = .ok (.aload_n 0, 1) := by decide +kernel
theorem dX0_at_6 : decode cX0_at 6 = .ok (.arraylength, 1) := by decide +kernel
theorem dX0_at_7 : decode cX0_at 7 = .ok (.if_icmp .ge 9, 3) := by decide +kernel
theorem dX0_at_10 : decode cX0_at 10 = .ok (.aload_n 0, 1) := by decide +kernel
theorem dX0_at_11 : decode cX0_at 11 = .ok (.iload_n 1, 1) := by decide +kernel
theorem dX0_at_12 : decode cX0_at 12 = .ok (.iaload, 1) := by decide +kernel
theorem dX0_at_13 : decode cX0_at 13 = .ok (.goto 4, 3) := by decide +kernel
theorem dX0_at_16 : decode cX0_at 16 = .ok (.iconst 0, 1) := by decide +kernel
theorem dX0_at_17 : decode cX0_at 17 = .ok (.ireturn, 1) := by decide +kernel
theorem dX0_put_0 : decode cX0_put 0 = .ok (.iload_n 1, 1) := by decide +kernel
theorem dX0_put_1 : decode cX0_put 1 = .ok (.ifCond .lt 13, 3) := by decide +kernel
theorem dX0_put_4 : decode cX0_put 4 = .ok (.iload_n 1, 1) := by decide +kernel
theorem dX0_put_5 : decode cX0_put 5 = .ok (.aload_n 0, 1) := by decide +kernel
theorem dX0_put_6 : decode cX0_put 6 = .ok (.arraylength, 1) := by decide +kernel
theorem dX0_put_7 : decode cX0_put 7 = .ok (.if_icmp .ge 7, 3) := by decide +kernel
theorem dX0_put_10 : decode cX0_put 10 = .ok (.aload_n 0, 1) := by decide +kernel
theorem dX0_put_11 : decode cX0_put 11 = .ok (.iload_n 1, 1) := by decide +kernel
theorem dX0_put_12 : decode cX0_put 12 = .ok (.iload_n 2, 1) := by decide +kernel
theorem dX0_put_13 : decode cX0_put 13 = .ok (.iastore, 1) := by decide +kernel
theorem dX0_put_14 : decode cX0_put 14 = .ok (.return_, 1) := by decide +kernel
theorem dX0_monthsLeft_0 : decode cX0_monthsLeft 0 = .ok (.aload_n 0, 1) := by decide +kernel
theorem dX0_monthsLeft_1 : decode cX0_monthsLeft 1 = .ok (.getfield 27, 3) := by decide +kernel
theorem dX0_monthsLeft_4 : decode cX0_monthsLeft 4 = .ok (.aload_n 0, 1) := by decide +kernel
theorem dX0_monthsLeft_5 : decode cX0_monthsLeft 5 = .ok (.getfield 52, 3) := by decide +kernel
theorem dX0_monthsLeft_8 : decode cX0_monthsLeft 8 = .ok (.isub, 1) := by decide +kernel
theorem dX0_monthsLeft_9 : decode cX0_monthsLeft 9 = .ok (.ireturn, 1) := by decide +kernel
set_option maxRecDepth 20000 in
theorem ggX0_debtNow_X0_at : GoodIn wsX0_debtNow wsX0_at := goodIn_r _ [6] (by decide +kernel) (by decide +kernel)
set_option maxRecDepth 20000 in
theorem gX0_debtNow_X0_at : GoodIn wsX0_debtNow (va_wsS RX0 55 yX0_at wsX0_at) := goodIn_app (goodIn_of _ (by decide +kernel)) ggX0_debtNow_X0_at
theorem dX0_debtNow_0 : decode cX0_debtNow 0 = .ok (.aload_n 0, 1) := by decide +kernel
theorem dX0_debtNow_1 : decode cX0_debtNow 1 = .ok (.getfield 34, 3) := by decide +kernel
theorem dX0_debtNow_4 : decode cX0_debtNow 4 = .ok (.aload_n 0, 1) := by decide +kernel
theorem dX0_debtNow_5 : decode cX0_debtNow 5 = .ok (.getfield 52, 3) := by decide +kernel
theorem dX0_debtNow_8 : decode cX0_debtNow 8 = .ok (.invokestatic 55, 3) := by decide +kernel
theorem dX0_debtNow_11 : decode cX0_debtNow 11 = .ok (.ireturn, 1) := by decide +kernel
theorem dX0_hasRoomFor_0 : decode cX0_hasRoomFor 0 = .ok (.aload_n 0, 1) := by decide +kernel
theorem dX0_hasRoomFor_1 : decode cX0_hasRoomFor 1 = .ok (.getfield 27, 3) := by decide +kernel
theorem dX0_hasRoomFor_4 : decode cX0_hasRoomFor 4 = .ok (.iload_n 1, 1) := by decide +kernel
theorem dX0_hasRoomFor_5 : decode cX0_hasRoomFor 5 = .ok (.iadd, 1) := by decide +kernel
theorem dX0_hasRoomFor_6 : decode cX0_hasRoomFor 6 = .ok (.bipush 120, 2) := by decide +kernel
theorem dX0_hasRoomFor_8 : decode cX0_hasRoomFor 8 = .ok (.if_icmp .gt 7, 3) := by decide +kernel
theorem dX0_hasRoomFor_11 : decode cX0_hasRoomFor 11 = .ok (.iconst 1, 1) := by decide +kernel
theorem dX0_hasRoomFor_12 : decode cX0_hasRoomFor 12 = .ok (.goto 4, 3) := by decide +kernel
theorem dX0_hasRoomFor_15 : decode cX0_hasRoomFor 15 = .ok (.iconst 0, 1) := by decide +kernel
theorem dX0_hasRoomFor_16 : decode cX0_hasRoomFor 16 = .ok (.ireturn, 1) := by decide +kernel
set_option maxRecDepth 20000 in
theorem ggX0_worthAt_X0_at : GoodIn wsX0_worthAt wsX0_at := goodIn_r _ [7] (by decide +kernel) (by decide +kernel)
set_option maxRecDepth 20000 in
theorem gX0_worthAt_X0_at : GoodIn wsX0_worthAt (va_wsS RX0 55 yX0_at wsX0_at) := goodIn_app (goodIn_of _ (by decide +kernel)) ggX0_worthAt_X0_at
set_option maxRecDepth 20000 in
theorem ggX0_worthAt_X0_worthBefore : GoodIn wsX0_worthAt wsX0_worthBefore := goodIn_r _ [10, 11] (by decide +kernel) (by decide +kernel)
set_option maxRecDepth 20000 in
theorem gX0_worthAt_X0_worthBefore : GoodIn wsX0_worthAt (va_wsS RX0 59 yX0_worthBefore wsX0_worthBefore) := goodIn_app (goodIn_of _ (by decide +kernel)) ggX0_worthAt_X0_worthBefore
theorem dX0_worthAt_0 : decode cX0_worthAt 0 = .ok (.lconst 0, 1) := by decide +kernel
theorem dX0_worthAt_1 : decode cX0_worthAt 1 = .ok (.lstore_n 2, 1) := by decide +kernel
theorem dX0_worthAt_2 : decode cX0_worthAt 2 = .ok (.aload_n 0, 1) := by decide +kernel
theorem dX0_worthAt_3 : decode cX0_worthAt 3 = .ok (.getfield 27, 3) := by decide +kernel
theorem dX0_worthAt_6 : decode cX0_worthAt 6 = .ok (.iconst 1, 1) := by decide +kernel
theorem dX0_worthAt_7 : decode cX0_worthAt 7 = .ok (.isub, 1) := by decide +kernel
theorem dX0_worthAt_8 : decode cX0_worthAt 8 = .ok (.istore 4, 2) := by decide +kernel
theorem dX0_worthAt_10 : decode cX0_worthAt 10 = .ok (.iload 4, 2) := by decide +kernel
theorem dX0_worthAt_12 : decode cX0_worthAt 12 = .ok (.aload_n 0, 1) := by decide +kernel
theorem dX0_worthAt_13 : decode cX0_worthAt 13 = .ok (.getfield 52, 3) := by decide +kernel
theorem dX0_worthAt_16 : decode cX0_worthAt 16 = .ok (.if_icmp .lt 26, 3) := by decide +kernel
theorem dX0_worthAt_19 : decode cX0_worthAt 19 = .ok (.lload_n 2, 1) := by decide +kernel
theorem dX0_worthAt_20 : decode cX0_worthAt 20 = .ok (.aload_n 0, 1) := by decide +kernel
theorem dX0_worthAt_21 : decode cX0_worthAt 21 = .ok (.getfield 30, 3) := by decide +kernel
theorem dX0_worthAt_24 : decode cX0_worthAt 24 = .ok (.iload 4, 2) := by decide +kernel
theorem dX0_worthAt_26 : decode cX0_worthAt 26 = .ok (.invokestatic 55, 3) := by decide +kernel
theorem dX0_worthAt_29 : decode cX0_worthAt 29 = .ok (.i2l, 1) := by decide +kernel
theorem dX0_worthAt_30 : decode cX0_worthAt 30 = .ok (.ladd, 1) := by decide +kernel
theorem dX0_worthAt_31 : decode cX0_worthAt 31 = .ok (.iload_n 1, 1) := by decide +kernel
theorem dX0_worthAt_32 : decode cX0_worthAt 32 = .ok (.invokestatic 59, 3) := by decide +kernel
theorem dX0_worthAt_35 : decode cX0_worthAt 35 = .ok (.lstore_n 2, 1) := by decide +kernel
theorem dX0_worthAt_36 : decode cX0_worthAt 36 = .ok (.iinc 4 (-1), 3) := by decide +kernel
theorem dX0_worthAt_39 : decode cX0_worthAt 39 = .ok (.goto (-29), 3) := by decide +kernel
theorem dX0_worthAt_42 : decode cX0_worthAt 42 = .ok (.lload_n 2, 1) := by decide +kernel
theorem dX0_worthAt_43 : decode cX0_worthAt 43 = .ok (.lreturn, 1) := by decide +kernel
theorem dX0_worthBefore_0 : decode cX0_worthBefore 0 = .ok (.ldc2_w 63, 3) := by decide +kernel
theorem dX0_worthBefore_3 : decode cX0_worthBefore 3 = .ok (.iload_n 2, 1) := by decide +kernel
theorem dX0_worthBefore_4 : decode cX0_worthBefore 4 = .ok (.i2l, 1) := by decide +kernel
theorem dX0_worthBefore_5 : decode cX0_worthBefore 5 = .ok (.ladd, 1) := by decide +kernel
theorem dX0_worthBefore_6 : decode cX0_worthBefore 6 = .ok (.lstore_n 3, 1) := by decide +kernel
theorem dX0_worthBefore_7 : decode cX0_worthBefore 7 = .ok (.lload_n 3, 1) := by decide +kernel
theorem dX0_worthBefore_8 : decode cX0_worthBefore 8 = .ok (.lconst 1, 1) := by decide +kernel
theorem dX0_worthBefore_9 : decode cX0_worthBefore 9 = .ok (.lcmp, 1) := by decide +kernel
theorem dX0_worthBefore_10 : decode cX0_worthBefore 10 = .ok (.ifCond .ge 7, 3) := by decide +kernel
theorem dX0_worthBefore_13 : decode cX0_worthBefore 13 = .ok (.lconst 0, 1) := by decide +kernel
theorem dX0_worthBefore_14 : decode cX0_worthBefore 14 = .ok (.goto 14, 3) := by decide +kernel
theorem dX0_worthBefore_17 : decode cX0_worthBefore 17 = .ok (.lload_n 0, 1) := by decide +kernel
theorem dX0_worthBefore_18 : decode cX0_worthBefore 18 = .ok (.ldc2_w 63, 3) := by decide +kernel
theorem dX0_worthBefore_21 : decode cX0_worthBefore 21 = .ok (.lmul, 1) := by decide +kernel
theorem dX0_worthBefore_22 : decode cX0_worthBefore 22 = .ok (.lload_n 3, 1) := by decide +kernel
theorem dX0_worthBefore_23 : decode cX0_worthBefore 23 = .ok (.ladd, 1) := by decide +kernel
theorem dX0_worthBefore_24 : decode cX0_worthBefore 24 = .ok (.lconst 1, 1) := by decide +kernel
theorem dX0_worthBefore_25 : decode cX0_worthBefore 25 = .ok (.lsub, 1) := by decide +kernel
theorem dX0_worthBefore_26 : decode cX0_worthBefore 26 = .ok (.lload_n 3, 1) := by decide +kernel
theorem dX0_worthBefore_27 : decode cX0_worthBefore 27 = .ok (.ldiv, 1) := by decide +kernel
theorem dX0_worthBefore_28 : decode cX0_worthBefore 28 = .ok (.lreturn, 1) := by decide +kernel
set_option maxRecDepth 20000 in
theorem ggX0_layDebts_X0_put : GoodIn wsX0_layDebts wsX0_put := goodIn_r _ [9] (by decide +kernel) (by decide +kernel)
set_option maxRecDepth 20000 in
theorem gX0_layDebts_X0_put : GoodIn wsX0_layDebts (va_wsS RX0 37 yX0_put wsX0_put) := goodIn_app (goodIn_of _ (by decide +kernel)) ggX0_layDebts_X0_put
set_option maxRecDepth 20000 in
theorem ggX0_layDebts_X0_at : GoodIn wsX0_layDebts wsX0_at := goodIn_r _ [12] (by decide +kernel) (by decide +kernel)
set_option maxRecDepth 20000 in
theorem gX0_layDebts_X0_at : GoodIn wsX0_layDebts (va_wsS RX0 55 yX0_at wsX0_at) := goodIn_app (goodIn_of _ (by decide +kernel)) ggX0_layDebts_X0_at
set_option maxRecDepth 20000 in
theorem ggX0_layDebts_X0_worthBefore : GoodIn wsX0_layDebts wsX0_worthBefore := goodIn_r _ [15, 16] (by decide +kernel) (by decide +kernel)
set_option maxRecDepth 20000 in
theorem gX0_layDebts_X0_worthBefore : GoodIn wsX0_layDebts (va_wsS RX0 59 yX0_worthBefore wsX0_worthBefore) := goodIn_app (goodIn_of _ (by decide +kernel)) ggX0_layDebts_X0_worthBefore
theorem dX0_layDebts_0 : decode cX0_layDebts 0 = .ok (.aload_n 0, 1) := by decide +kernel
theorem dX0_layDebts_1 : decode cX0_layDebts 1 = .ok (.getfield 34, 3) := by decide +kernel
theorem dX0_layDebts_4 : decode cX0_layDebts 4 = .ok (.aload_n 0, 1) := by decide +kernel
theorem dX0_layDebts_5 : decode cX0_layDebts 5 = .ok (.getfield 27, 3) := by decide +kernel
theorem dX0_layDebts_8 : decode cX0_layDebts 8 = .ok (.iconst 0, 1) := by decide +kernel
theorem dX0_layDebts_9 : decode cX0_layDebts 9 = .ok (.invokestatic 37, 3) := by decide +kernel
theorem dX0_layDebts_12 : decode cX0_layDebts 12 = .ok (.aload_n 0, 1) := by decide +kernel
theorem dX0_layDebts_13 : decode cX0_layDebts 13 = .ok (.getfield 27, 3) := by decide +kernel
theorem dX0_layDebts_16 : decode cX0_layDebts 16 = .ok (.iconst 1, 1) := by decide +kernel
theorem dX0_layDebts_17 : decode cX0_layDebts 17 = .ok (.isub, 1) := by decide +kernel
theorem dX0_layDebts_18 : decode cX0_layDebts 18 = .ok (.istore_n 1, 1) := by decide +kernel
theorem dX0_layDebts_19 : decode cX0_layDebts 19 = .ok (.iload_n 1, 1) := by decide +kernel
theorem dX0_layDebts_20 : decode cX0_layDebts 20 = .ok (.aload_n 0, 1) := by decide +kernel
theorem dX0_layDebts_21 : decode cX0_layDebts 21 = .ok (.getfield 52, 3) := by decide +kernel
theorem dX0_layDebts_24 : decode cX0_layDebts 24 = .ok (.if_icmp .lt 48, 3) := by decide +kernel
theorem dX0_layDebts_27 : decode cX0_layDebts 27 = .ok (.aload_n 0, 1) := by decide +kernel
theorem dX0_layDebts_28 : decode cX0_layDebts 28 = .ok (.getfield 34, 3) := by decide +kernel
theorem dX0_layDebts_31 : decode cX0_layDebts 31 = .ok (.iload_n 1, 1) := by decide +kernel
theorem dX0_layDebts_32 : decode cX0_layDebts 32 = .ok (.iconst 1, 1) := by decide +kernel
theorem dX0_layDebts_33 : decode cX0_layDebts 33 = .ok (.iadd, 1) := by decide +kernel
theorem dX0_layDebts_34 : decode cX0_layDebts 34 = .ok (.invokestatic 55, 3) := by decide +kernel
theorem dX0_layDebts_37 : decode cX0_layDebts 37 = .ok (.i2l, 1) := by decide +kernel
theorem dX0_layDebts_38 : decode cX0_layDebts 38 = .ok (.aload_n 0, 1) := by decide +kernel
theorem dX0_layDebts_39 : decode cX0_layDebts 39 = .ok (.getfield 30, 3) := by decide +kernel
theorem dX0_layDebts_42 : decode cX0_layDebts 42 = .ok (.iload_n 1, 1) := by decide +kernel
theorem dX0_layDebts_43 : decode cX0_layDebts 43 = .ok (.invokestatic 55, 3) := by decide +kernel
theorem dX0_layDebts_46 : decode cX0_layDebts 46 = .ok (.i2l, 1) := by decide +kernel
theorem dX0_layDebts_47 : decode cX0_layDebts 47 = .ok (.ladd, 1) := by decide +kernel
theorem dX0_layDebts_48 : decode cX0_layDebts 48 = .ok (.lstore_n 2, 1) := by decide +kernel
theorem dX0_layDebts_49 : decode cX0_layDebts 49 = .ok (.aload_n 0, 1) := by decide +kernel
theorem dX0_layDebts_50 : decode cX0_layDebts 50 = .ok (.getfield 34, 3) := by decide +kernel
theorem dX0_layDebts_53 : decode cX0_layDebts 53 = .ok (.iload_n 1, 1) := by decide +kernel
theorem dX0_layDebts_54 : decode cX0_layDebts 54 = .ok (.lload_n 2, 1) := by decide +kernel
theorem dX0_layDebts_55 : decode cX0_layDebts 55 = .ok (.aload_n 0, 1) := by decide +kernel
theorem dX0_layDebts_56 : decode cX0_layDebts 56 = .ok (.getfield 9, 3) := by decide +kernel
theorem dX0_layDebts_59 : decode cX0_layDebts 59 = .ok (.invokestatic 59, 3) := by decide +kernel
theorem dX0_layDebts_62 : decode cX0_layDebts 62 = .ok (.l2i, 1) := by decide +kernel
theorem dX0_layDebts_63 : decode cX0_layDebts 63 = .ok (.invokestatic 37, 3) := by decide +kernel
theorem dX0_layDebts_66 : decode cX0_layDebts 66 = .ok (.iinc 1 (-1), 3) := by decide +kernel
theorem dX0_layDebts_69 : decode cX0_layDebts 69 = .ok (.goto (-50), 3) := by decide +kernel
theorem dX0_layDebts_72 : decode cX0_layDebts 72 = .ok (.return_, 1) := by decide +kernel
set_option maxRecDepth 20000 in
theorem ggX0_endsWithin_X0_monthsLeft : GoodIn wsX0_endsWithin wsX0_monthsLeft := goodIn_r _ [9, 10, 11, 26, 27, 28, 29, 30, 31, 32, 33, 34, 35, 36] (by decide +kernel) (by decide +kernel)
set_option maxRecDepth 20000 in
theorem gX0_endsWithin_X0_monthsLeft : GoodIn wsX0_endsWithin (wsV RX0 65 RX0 yX0_monthsLeft wsX0_monthsLeft) := goodIn_app (goodIn_of _ (by decide +kernel)) ggX0_endsWithin_X0_monthsLeft
set_option maxRecDepth 20000 in
theorem ggX0_endsWithin_X0_passOneMonth : GoodIn wsX0_endsWithin wsX0_passOneMonth := goodIn_r _ [15, 16, 11, 17, 18, 19, 10, 20, 1, 2, 3, 4, 21, 22, 23, 24, 8, 25, 26, 27, 28, 29, 30, 31, 32, 33, 34, 35, 36] (by decide +kernel) (by decide +kernel)
set_option maxRecDepth 20000 in
theorem gX0_endsWithin_X0_passOneMonth : GoodIn wsX0_endsWithin (wsV RX0 68 RX0 yX0_passOneMonth wsX0_passOneMonth) := goodIn_app (goodIn_of _ (by decide +kernel)) ggX0_endsWithin_X0_passOneMonth
theorem dX0_endsWithin_0 : decode cX0_endsWithin 0 = .ok (.iload_n 1, 1) := by decide +kernel
theorem dX0_endsWithin_1 : decode cX0_endsWithin 1 = .ok (.aload_n 0, 1) := by decide +kernel
theorem dX0_endsWithin_2 : decode cX0_endsWithin 2 = .ok (.invokevirtual 65, 3) := by decide +kernel
theorem dX0_endsWithin_5 : decode cX0_endsWithin 5 = .ok (.invokestatic 18, 3) := by decide +kernel
theorem dX0_endsWithin_8 : decode cX0_endsWithin 8 = .ok (.istore_n 2, 1) := by decide +kernel
theorem dX0_endsWithin_9 : decode cX0_endsWithin 9 = .ok (.iconst 0, 1) := by decide +kernel
theorem dX0_endsWithin_10 : decode cX0_endsWithin 10 = .ok (.istore_n 3, 1) := by decide +kernel
theorem dX0_endsWithin_11 : decode cX0_endsWithin 11 = .ok (.iload_n 3, 1) := by decide +kernel
theorem dX0_endsWithin_12 : decode cX0_endsWithin 12 = .ok (.iload_n 2, 1) := by decide +kernel
theorem dX0_endsWithin_13 : decode cX0_endsWithin 13 = .ok (.if_icmp .ge 13, 3) := by decide +kernel
theorem dX0_endsWithin_16 : decode cX0_endsWithin 16 = .ok (.aload_n 0, 1) := by decide +kernel
theorem dX0_endsWithin_17 : decode cX0_endsWithin 17 = .ok (.invokevirtual 68, 3) := by decide +kernel
theorem dX0_endsWithin_20 : decode cX0_endsWithin 20 = .ok (.iinc 3 1, 3) := by decide +kernel
theorem dX0_endsWithin_23 : decode cX0_endsWithin 23 = .ok (.goto (-12), 3) := by decide +kernel
theorem dX0_endsWithin_26 : decode cX0_endsWithin 26 = .ok (.iload_n 2, 1) := by decide +kernel
theorem dX0_endsWithin_27 : decode cX0_endsWithin 27 = .ok (.ifCond .le 14, 3) := by decide +kernel
theorem dX0_endsWithin_30 : decode cX0_endsWithin 30 = .ok (.aload_n 0, 1) := by decide +kernel
theorem dX0_endsWithin_31 : decode cX0_endsWithin 31 = .ok (.invokevirtual 65, 3) := by decide +kernel
theorem dX0_endsWithin_34 : decode cX0_endsWithin 34 = .ok (.ifCond .ne 7, 3) := by decide +kernel
theorem dX0_endsWithin_37 : decode cX0_endsWithin 37 = .ok (.iconst 1, 1) := by decide +kernel
theorem dX0_endsWithin_38 : decode cX0_endsWithin 38 = .ok (.goto 4, 3) := by decide +kernel
theorem dX0_endsWithin_41 : decode cX0_endsWithin 41 = .ok (.iconst 0, 1) := by decide +kernel
theorem dX0_endsWithin_42 : decode cX0_endsWithin 42 = .ok (.ireturn, 1) := by decide +kernel
set_option maxRecDepth 20000 in
theorem ggX0_passOneMonth_X0_at : GoodIn wsX0_passOneMonth wsX0_at := goodIn_r _ [17] (by decide +kernel) (by decide +kernel)
set_option maxRecDepth 20000 in
theorem gX0_passOneMonth_X0_at : GoodIn wsX0_passOneMonth (va_wsS RX0 55 yX0_at wsX0_at) := goodIn_app (goodIn_of _ (by decide +kernel)) ggX0_passOneMonth_X0_at
theorem dX0_passOneMonth_0 : decode cX0_passOneMonth 0 = .ok (.aload_n 0, 1) := by decide +kernel
theorem dX0_passOneMonth_1 : decode cX0_passOneMonth 1 = .ok (.getfield 30, 3) := by decide +kernel
theorem dX0_passOneMonth_4 : decode cX0_passOneMonth 4 = .ok (.aload_n 0, 1) := by decide +kernel
theorem dX0_passOneMonth_5 : decode cX0_passOneMonth 5 = .ok (.getfield 52, 3) := by decide +kernel
theorem dX0_passOneMonth_8 : decode cX0_passOneMonth 8 = .ok (.invokestatic 55, 3) := by decide +kernel
theorem dX0_passOneMonth_11 : decode cX0_passOneMonth 11 = .ok (.istore_n 1, 1) := by decide +kernel
theorem dX0_passOneMonth_12 : decode cX0_passOneMonth 12 = .ok (.aload_n 0, 1) := by decide +kernel
theorem dX0_passOneMonth_13 : decode cX0_passOneMonth 13 = .ok (.dup, 1) := by decide +kernel
theorem dX0_passOneMonth_14 : decode cX0_passOneMonth 14 = .ok (.getfield 71, 3) := by decide +kernel
theorem dX0_passOneMonth_17 : decode cX0_passOneMonth 17 = .ok (.aload_n 0, 1) := by decide +kernel
theorem dX0_passOneMonth_18 : decode cX0_passOneMonth 18 = .ok (.getfield 34, 3) := by decide +kernel
theorem dX0_passOneMonth_21 : decode cX0_passOneMonth 21 = .ok (.aload_n 0, 1) := by decide +kernel
theorem dX0_passOneMonth_22 : decode cX0_passOneMonth 22 = .ok (.getfield 52, 3) := by decide +kernel
theorem dX0_passOneMonth_25 : decode cX0_passOneMonth 25 = .ok (.iconst 1, 1) := by decide +kernel
theorem dX0_passOneMonth_26 : decode cX0_passOneMonth 26 = .ok (.iadd, 1) := by decide +kernel
theorem dX0_passOneMonth_27 : decode cX0_passOneMonth 27 = .ok (.invokestatic 55, 3) := by decide +kernel
theorem dX0_passOneMonth_30 : decode cX0_passOneMonth 30 = .ok (.iload_n 1, 1) := by decide +kernel
theorem dX0_passOneMonth_31 : decode cX0_passOneMonth 31 = .ok (.iadd, 1) := by decide +kernel
theorem dX0_passOneMonth_32 : decode cX0_passOneMonth 32 = .ok (.aload_n 0, 1) := by decide +kernel
theorem dX0_passOneMonth_33 : decode cX0_passOneMonth 33 = .ok (.getfield 34, 3) := by decide +kernel
theorem dX0_passOneMonth_36 : decode cX0_passOneMonth 36 = .ok (.aload_n 0, 1) := by decide +kernel
theorem dX0_passOneMonth_37 : decode cX0_passOneMonth 37 = .ok (.getfield 52, 3) := by decide +kernel
theorem dX0_passOneMonth_40 : decode cX0_passOneMonth 40 = .ok (.invokestatic 55, 3) := by decide +kernel
theorem dX0_passOneMonth_43 : decode cX0_passOneMonth 43 = .ok (.isub, 1) := by decide +kernel
theorem dX0_passOneMonth_44 : decode cX0_passOneMonth 44 = .ok (.i2l, 1) := by decide +kernel
theorem dX0_passOneMonth_45 : decode cX0_passOneMonth 45 = .ok (.ladd, 1) := by decide +kernel
theorem dX0_passOneMonth_46 : decode cX0_passOneMonth 46 = .ok (.putfield 71, 3) := by decide +kernel
theorem dX0_passOneMonth_49 : decode cX0_passOneMonth 49 = .ok (.aload_n 0, 1) := by decide +kernel
theorem dX0_passOneMonth_50 : decode cX0_passOneMonth 50 = .ok (.dup, 1) := by decide +kernel
theorem dX0_passOneMonth_51 : decode cX0_passOneMonth 51 = .ok (.getfield 74, 3) := by decide +kernel
theorem dX0_passOneMonth_54 : decode cX0_passOneMonth 54 = .ok (.iload_n 1, 1) := by decide +kernel
theorem dX0_passOneMonth_55 : decode cX0_passOneMonth 55 = .ok (.i2l, 1) := by decide +kernel
theorem dX0_passOneMonth_56 : decode cX0_passOneMonth 56 = .ok (.ladd, 1) := by decide +kernel
theorem dX0_passOneMonth_57 : decode cX0_passOneMonth 57 = .ok (.putfield 74, 3) := by decide +kernel
theorem dX0_passOneMonth_60 : decode cX0_passOneMonth 60 = .ok (.aload_n 0, 1) := by decide +kernel
theorem dX0_passOneMonth_61 : decode cX0_passOneMonth 61 = .ok (.getfield 27, 3) := by decide +kernel
theorem dX0_passOneMonth_64 : decode cX0_passOneMonth 64 = .ok (.aload_n 0, 1) := by decide +kernel
theorem dX0_passOneMonth_65 : decode cX0_passOneMonth 65 = .ok (.getfield 15, 3) := by decide +kernel
theorem dX0_passOneMonth_68 : decode cX0_passOneMonth 68 = .ok (.invokestatic 18, 3) := by decide +kernel
theorem dX0_passOneMonth_71 : decode cX0_passOneMonth 71 = .ok (.aload_n 0, 1) := by decide +kernel
theorem dX0_passOneMonth_72 : decode cX0_passOneMonth 72 = .ok (.getfield 52, 3) := by decide +kernel
theorem dX0_passOneMonth_75 : decode cX0_passOneMonth 75 = .ok (.isub, 1) := by decide +kernel
theorem dX0_passOneMonth_76 : decode cX0_passOneMonth 76 = .ok (.istore_n 2, 1) := by decide +kernel
theorem dX0_passOneMonth_77 : decode cX0_passOneMonth 77 = .ok (.iload_n 2, 1) := by decide +kernel
theorem dX0_passOneMonth_78 : decode cX0_passOneMonth 78 = .ok (.iconst 1, 1) := by decide +kernel
theorem dX0_passOneMonth_79 : decode cX0_passOneMonth 79 = .ok (.if_icmp .le 13, 3) := by decide +kernel
theorem dX0_passOneMonth_82 : decode cX0_passOneMonth 82 = .ok (.aload_n 0, 1) := by decide +kernel
theorem dX0_passOneMonth_83 : decode cX0_passOneMonth 83 = .ok (.getfield 48, 3) := by decide +kernel
theorem dX0_passOneMonth_86 : decode cX0_passOneMonth 86 = .ok (.iload_n 2, 1) := by decide +kernel
theorem dX0_passOneMonth_87 : decode cX0_passOneMonth 87 = .ok (.i2l, 1) := by decide +kernel
theorem dX0_passOneMonth_88 : decode cX0_passOneMonth 88 = .ok (.ldiv, 1) := by decide +kernel
theorem dX0_passOneMonth_89 : decode cX0_passOneMonth 89 = .ok (.goto 7, 3) := by decide +kernel
theorem dX0_passOneMonth_92 : decode cX0_passOneMonth 92 = .ok (.aload_n 0, 1) := by decide +kernel
theorem dX0_passOneMonth_93 : decode cX0_passOneMonth 93 = .ok (.getfield 48, 3) := by decide +kernel
theorem dX0_passOneMonth_96 : decode cX0_passOneMonth 96 = .ok (.lstore_n 3, 1) := by decide +kernel
theorem dX0_passOneMonth_97 : decode cX0_passOneMonth 97 = .ok (.aload_n 0, 1) := by decide +kernel
theorem dX0_passOneMonth_98 : decode cX0_passOneMonth 98 = .ok (.dup, 1) := by decide +kernel
theorem dX0_passOneMonth_99 : decode cX0_passOneMonth 99 = .ok (.getfield 77, 3) := by decide +kernel
theorem dX0_passOneMonth_102 : decode cX0_passOneMonth 102 = .ok (.lload_n 3, 1) := by decide +kernel
theorem dX0_passOneMonth_103 : decode cX0_passOneMonth 103 = .ok (.ladd, 1) := by decide +kernel
theorem dX0_passOneMonth_104 : decode cX0_passOneMonth 104 = .ok (.putfield 77, 3) := by decide +kernel
theorem dX0_passOneMonth_107 : decode cX0_passOneMonth 107 = .ok (.aload_n 0, 1) := by decide +kernel
theorem dX0_passOneMonth_108 : decode cX0_passOneMonth 108 = .ok (.dup, 1) := by decide +kernel
theorem dX0_passOneMonth_109 : decode cX0_passOneMonth 109 = .ok (.getfield 48, 3) := by decide +kernel
theorem dX0_passOneMonth_112 : decode cX0_passOneMonth 112 = .ok (.lload_n 3, 1) := by decide +kernel
theorem dX0_passOneMonth_113 : decode cX0_passOneMonth 113 = .ok (.lsub, 1) := by decide +kernel
theorem dX0_passOneMonth_114 : decode cX0_passOneMonth 114 = .ok (.putfield 48, 3) := by decide +kernel
theorem dX0_passOneMonth_117 : decode cX0_passOneMonth 117 = .ok (.aload_n 0, 1) := by decide +kernel
theorem dX0_passOneMonth_118 : decode cX0_passOneMonth 118 = .ok (.dup, 1) := by decide +kernel
theorem dX0_passOneMonth_119 : decode cX0_passOneMonth 119 = .ok (.getfield 52, 3) := by decide +kernel
theorem dX0_passOneMonth_122 : decode cX0_passOneMonth 122 = .ok (.iconst 1, 1) := by decide +kernel
theorem dX0_passOneMonth_123 : decode cX0_passOneMonth 123 = .ok (.iadd, 1) := by decide +kernel
theorem dX0_passOneMonth_124 : decode cX0_passOneMonth 124 = .ok (.putfield 52, 3) := by decide +kernel
theorem dX0_passOneMonth_127 : decode cX0_passOneMonth 127 = .ok (.return_, 1) := by decide +kernel
set_option maxRecDepth 20000 in
theorem ggX0_wouldPassTheMost_X0_at : GoodIn wsX0_wouldPassTheMost wsX0_at := goodIn_r _ [8] (by decide +kernel) (by decide +kernel)
set_option maxRecDepth 20000 in
theorem gX0_wouldPassTheMost_X0_at : GoodIn wsX0_wouldPassTheMost (va_wsS RX0 55 yX0_at wsX0_at) := goodIn_app (goodIn_of _ (by decide +kernel)) ggX0_wouldPassTheMost_X0_at
set_option maxRecDepth 20000 in
theorem ggX0_wouldPassTheMost_X0_percentOf : GoodIn wsX0_wouldPassTheMost wsX0_percentOf := goodIn_r _ [11, 12] (by decide +kernel) (by decide +kernel)
set_option maxRecDepth 20000 in
theorem gX0_wouldPassTheMost_X0_percentOf : GoodIn wsX0_wouldPassTheMost (va_wsS RX0 80 yX0_percentOf wsX0_percentOf) := goodIn_app (goodIn_of _ (by decide +kernel)) ggX0_wouldPassTheMost_X0_percentOf
theorem dX0_wouldPassTheMost_0 : decode cX0_wouldPassTheMost 0 = .ok (.aload_n 0, 1) := by decide +kernel
theorem dX0_wouldPassTheMost_1 : decode cX0_wouldPassTheMost 1 = .ok (.getfield 52, 3) := by decide +kernel
theorem dX0_wouldPassTheMost_4 : decode cX0_wouldPassTheMost 4 = .ok (.istore_n 2, 1) := by decide +kernel
theorem dX0_wouldPassTheMost_5 : decode cX0_wouldPassTheMost 5 = .ok (.iload_n 2, 1) := by decide +kernel
theorem dX0_wouldPassTheMost_6 : decode cX0_wouldPassTheMost 6 = .ok (.aload_n 0, 1) := by decide +kernel
theorem dX0_wouldPassTheMost_7 : decode cX0_wouldPassTheMost 7 = .ok (.getfield 27, 3) := by decide +kernel
theorem dX0_wouldPassTheMost_10 : decode cX0_wouldPassTheMost 10 = .ok (.if_icmp .ge 31, 3) := by decide +kernel
theorem dX0_wouldPassTheMost_13 : decode cX0_wouldPassTheMost 13 = .ok (.aload_n 0, 1) := by decide +kernel
theorem dX0_wouldPassTheMost_14 : decode cX0_wouldPassTheMost 14 = .ok (.getfield 30, 3) := by decide +kernel
theorem dX0_wouldPassTheMost_17 : decode cX0_wouldPassTheMost 17 = .ok (.iload_n 2, 1) := by decide +kernel
theorem dX0_wouldPassTheMost_18 : decode cX0_wouldPassTheMost 18 = .ok (.invokestatic 55, 3) := by decide +kernel
theorem dX0_wouldPassTheMost_21 : decode cX0_wouldPassTheMost 21 = .ok (.i2l, 1) := by decide +kernel
theorem dX0_wouldPassTheMost_22 : decode cX0_wouldPassTheMost 22 = .ok (.iload_n 1, 1) := by decide +kernel
theorem dX0_wouldPassTheMost_23 : decode cX0_wouldPassTheMost 23 = .ok (.invokestatic 80, 3) := by decide +kernel
theorem dX0_wouldPassTheMost_26 : decode cX0_wouldPassTheMost 26 = .ok (.ldc2_w 63, 3) := by decide +kernel
theorem dX0_wouldPassTheMost_29 : decode cX0_wouldPassTheMost 29 = .ok (.lcmp, 1) := by decide +kernel
theorem dX0_wouldPassTheMost_30 : decode cX0_wouldPassTheMost 30 = .ok (.ifCond .le 5, 3) := by decide +kernel
theorem dX0_wouldPassTheMost_33 : decode cX0_wouldPassTheMost 33 = .ok (.iconst 1, 1) := by decide +kernel
theorem dX0_wouldPassTheMost_34 : decode cX0_wouldPassTheMost 34 = .ok (.ireturn, 1) := by decide +kernel
theorem dX0_wouldPassTheMost_35 : decode cX0_wouldPassTheMost 35 = .ok (.iinc 2 1, 3) := by decide +kernel
theorem dX0_wouldPassTheMost_38 : decode cX0_wouldPassTheMost 38 = .ok (.goto (-33), 3) := by decide +kernel
theorem dX0_wouldPassTheMost_41 : decode cX0_wouldPassTheMost 41 = .ok (.iconst 0, 1) := by decide +kernel
theorem dX0_wouldPassTheMost_42 : decode cX0_wouldPassTheMost 42 = .ok (.ireturn, 1) := by decide +kernel
set_option maxRecDepth 20000 in
theorem ggX0_reviewPayments_X0_scalePayments : GoodIn wsX0_reviewPayments wsX0_scalePayments := goodIn_r _ [5, 6, 7, 8, 9, 10, 4, 11, 12, 13, 14, 15, 16, 17, 18, 39, 40, 41, 42, 43, 44, 45, 46, 47, 48, 49] (by decide +kernel) (by decide +kernel)
set_option maxRecDepth 20000 in
theorem gX0_reviewPayments_X0_scalePayments : GoodIn wsX0_reviewPayments (wsV RX0 83 RX0 yX0_scalePayments wsX0_scalePayments) := goodIn_app (goodIn_of _ (by decide +kernel)) ggX0_reviewPayments_X0_scalePayments
set_option maxRecDepth 20000 in
theorem ggX0_reviewPayments_X0_followDebt : GoodIn wsX0_reviewPayments wsX0_followDebt := goodIn_r _ [22, 23, 24, 25, 26, 27, 4, 28, 29, 6, 9, 10, 11, 30, 31, 32, 33, 7, 8, 34, 16, 17, 18, 35, 36, 37, 38, 39, 40, 41, 42, 43, 44, 45, 46, 47, 48, 49] (by decide +kernel) (by decide +kernel)
set_option maxRecDepth 20000 in
theorem gX0_reviewPayments_X0_followDebt : GoodIn wsX0_reviewPayments (wsV RX0 87 RX0 yX0_followDebt wsX0_followDebt) := goodIn_app (goodIn_of _ (by decide +kernel)) ggX0_reviewPayments_X0_followDebt
theorem dX0_reviewPayments_0 : decode cX0_reviewPayments 0 = .ok (.aload_n 0, 1) := by decide +kernel
theorem dX0_reviewPayments_1 : decode cX0_reviewPayments 1 = .ok (.iload_n 1, 1) := by decide +kernel
theorem dX0_reviewPayments_2 : decode cX0_reviewPayments 2 = .ok (.invokevirtual 83, 3) := by decide +kernel
theorem dX0_reviewPayments_5 : decode cX0_reviewPayments 5 = .ok (.aload_n 0, 1) := by decide +kernel
theorem dX0_reviewPayments_6 : decode cX0_reviewPayments 6 = .ok (.invokevirtual 87, 3) := by decide +kernel
theorem dX0_reviewPayments_9 : decode cX0_reviewPayments 9 = .ok (.return_, 1) := by decide +kernel
set_option maxRecDepth 20000 in
theorem ggX0_putBehind_X0_put : GoodIn wsX0_putBehind wsX0_put := goodIn_r _ [10] (by decide +kernel) (by decide +kernel)
set_option maxRecDepth 20000 in
theorem gX0_putBehind_X0_put : GoodIn wsX0_putBehind (va_wsS RX0 37 yX0_put wsX0_put) := goodIn_app (goodIn_of _ (by decide +kernel)) ggX0_putBehind_X0_put
set_option maxRecDepth 20000 in
theorem ggX0_putBehind_X0_followDebt : GoodIn wsX0_putBehind wsX0_followDebt := goodIn_r _ [14, 15, 16, 17, 18, 19, 9, 20, 21, 22, 23, 24, 25, 26, 27, 28, 29, 1, 6, 30, 7, 8, 10, 31, 32, 33, 34, 35, 36, 37, 38, 39, 40, 41, 42, 43, 44, 45] (by decide +kernel) (by decide +kernel)
set_option maxRecDepth 20000 in
theorem gX0_putBehind_X0_followDebt : GoodIn wsX0_putBehind (wsV RX0 87 RX0 yX0_followDebt wsX0_followDebt) := goodIn_app (goodIn_of _ (by decide +kernel)) ggX0_putBehind_X0_followDebt
theorem dX0_putBehind_0 : decode cX0_putBehind 0 = .ok (.aload_n 0, 1) := by decide +kernel
theorem dX0_putBehind_1 : decode cX0_putBehind 1 = .ok (.getfield 27, 3) := by decide +kernel
theorem dX0_putBehind_4 : decode cX0_putBehind 4 = .ok (.iload_n 1, 1) := by decide +kernel
theorem dX0_putBehind_5 : decode cX0_putBehind 5 = .ok (.iadd, 1) := by decide +kernel
theorem dX0_putBehind_6 : decode cX0_putBehind 6 = .ok (.bipush 120, 2) := by decide +kernel
theorem dX0_putBehind_8 : decode cX0_putBehind 8 = .ok (.invokestatic 18, 3) := by decide +kernel
theorem dX0_putBehind_11 : decode cX0_putBehind 11 = .ok (.istore_n 3, 1) := by decide +kernel
theorem dX0_putBehind_12 : decode cX0_putBehind 12 = .ok (.aload_n 0, 1) := by decide +kernel
theorem dX0_putBehind_13 : decode cX0_putBehind 13 = .ok (.getfield 27, 3) := by decide +kernel
theorem dX0_putBehind_16 : decode cX0_putBehind 16 = .ok (.istore 4, 2) := by decide +kernel
theorem dX0_putBehind_18 : decode cX0_putBehind 18 = .ok (.iload 4, 2) := by decide +kernel
theorem dX0_putBehind_20 : decode cX0_putBehind 20 = .ok (.iload_n 3, 1) := by decide +kernel
theorem dX0_putBehind_21 : decode cX0_putBehind 21 = .ok (.if_icmp .ge 19, 3) := by decide +kernel
theorem dX0_putBehind_24 : decode cX0_putBehind 24 = .ok (.aload_n 0, 1) := by decide +kernel
theorem dX0_putBehind_25 : decode cX0_putBehind 25 = .ok (.getfield 30, 3) := by decide +kernel
theorem dX0_putBehind_28 : decode cX0_putBehind 28 = .ok (.iload 4, 2) := by decide +kernel
theorem dX0_putBehind_30 : decode cX0_putBehind 30 = .ok (.iload_n 2, 1) := by decide +kernel
theorem dX0_putBehind_31 : decode cX0_putBehind 31 = .ok (.invokestatic 37, 3) := by decide +kernel
theorem dX0_putBehind_34 : decode cX0_putBehind 34 = .ok (.iinc 4 1, 3) := by decide +kernel
theorem dX0_putBehind_37 : decode cX0_putBehind 37 = .ok (.goto (-19), 3) := by decide +kernel
theorem dX0_putBehind_40 : decode cX0_putBehind 40 = .ok (.aload_n 0, 1) := by decide +kernel
theorem dX0_putBehind_41 : decode cX0_putBehind 41 = .ok (.iload_n 3, 1) := by decide +kernel
theorem dX0_putBehind_42 : decode cX0_putBehind 42 = .ok (.putfield 27, 3) := by decide +kernel
theorem dX0_putBehind_45 : decode cX0_putBehind 45 = .ok (.aload_n 0, 1) := by decide +kernel
theorem dX0_putBehind_46 : decode cX0_putBehind 46 = .ok (.invokevirtual 87, 3) := by decide +kernel
theorem dX0_putBehind_49 : decode cX0_putBehind 49 = .ok (.return_, 1) := by decide +kernel
set_option maxRecDepth 20000 in
theorem ggX0_takeOffTheEnd_X0_monthsLeft : GoodIn wsX0_takeOffTheEnd wsX0_monthsLeft := goodIn_r _ [7, 1, 8, 35, 36, 37, 38, 39, 40, 41, 42, 43, 44, 45] (by decide +kernel) (by decide +kernel)
set_option maxRecDepth 20000 in
theorem gX0_takeOffTheEnd_X0_monthsLeft : GoodIn wsX0_takeOffTheEnd (wsV RX0 65 RX0 yX0_monthsLeft wsX0_monthsLeft) := goodIn_app (goodIn_of _ (by decide +kernel)) ggX0_takeOffTheEnd_X0_monthsLeft
set_option maxRecDepth 20000 in
theorem ggX0_takeOffTheEnd_X0_giveUp : GoodIn wsX0_takeOffTheEnd wsX0_giveUp := goodIn_r _ [12, 2, 13, 14, 15, 16, 6, 17, 18, 8, 19, 20, 21, 22, 23, 24, 25, 1, 26, 27, 28, 29, 30, 31, 32, 33, 34, 35, 36, 37, 38, 39, 40, 41, 42, 43, 44, 45] (by decide +kernel) (by decide +kernel)
set_option maxRecDepth 20000 in
theorem gX0_takeOffTheEnd_X0_giveUp : GoodIn wsX0_takeOffTheEnd (wsV RX0 90 RX0 yX0_giveUp wsX0_giveUp) := goodIn_app (goodIn_of _ (by decide +kernel)) ggX0_takeOffTheEnd_X0_giveUp
theorem dX0_takeOffTheEnd_0 : decode cX0_takeOffTheEnd 0 = .ok (.aload_n 0, 1) := by decide +kernel
theorem dX0_takeOffTheEnd_1 : decode cX0_takeOffTheEnd 1 = .ok (.invokevirtual 65, 3) := by decide +kernel
theorem dX0_takeOffTheEnd_4 : decode cX0_takeOffTheEnd 4 = .ok (.istore_n 2, 1) := by decide +kernel
theorem dX0_takeOffTheEnd_5 : decode cX0_takeOffTheEnd 5 = .ok (.aload_n 0, 1) := by decide +kernel
theorem dX0_takeOffTheEnd_6 : decode cX0_takeOffTheEnd 6 = .ok (.dup, 1) := by decide +kernel
theorem dX0_takeOffTheEnd_7 : decode cX0_takeOffTheEnd 7 = .ok (.getfield 27, 3) := by decide +kernel
theorem dX0_takeOffTheEnd_10 : decode cX0_takeOffTheEnd 10 = .ok (.iload_n 1, 1) := by decide +kernel
theorem dX0_takeOffTheEnd_11 : decode cX0_takeOffTheEnd 11 = .ok (.isub, 1) := by decide +kernel
theorem dX0_takeOffTheEnd_12 : decode cX0_takeOffTheEnd 12 = .ok (.putfield 27, 3) := by decide +kernel
theorem dX0_takeOffTheEnd_15 : decode cX0_takeOffTheEnd 15 = .ok (.aload_n 0, 1) := by decide +kernel
theorem dX0_takeOffTheEnd_16 : decode cX0_takeOffTheEnd 16 = .ok (.iload_n 2, 1) := by decide +kernel
theorem dX0_takeOffTheEnd_17 : decode cX0_takeOffTheEnd 17 = .ok (.iconst 1, 1) := by decide +kernel
theorem dX0_takeOffTheEnd_18 : decode cX0_takeOffTheEnd 18 = .ok (.if_icmp .ge 7, 3) := by decide +kernel
theorem dX0_takeOffTheEnd_21 : decode cX0_takeOffTheEnd 21 = .ok (.lconst 0, 1) := by decide +kernel
theorem dX0_takeOffTheEnd_22 : decode cX0_takeOffTheEnd 22 = .ok (.goto 16, 3) := by decide +kernel
theorem dX0_takeOffTheEnd_25 : decode cX0_takeOffTheEnd 25 = .ok (.aload_n 0, 1) := by decide +kernel
theorem dX0_takeOffTheEnd_26 : decode cX0_takeOffTheEnd 26 = .ok (.getfield 48, 3) := by decide +kernel
theorem dX0_takeOffTheEnd_29 : decode cX0_takeOffTheEnd 29 = .ok (.aload_n 0, 1) := by decide +kernel
theorem dX0_takeOffTheEnd_30 : decode cX0_takeOffTheEnd 30 = .ok (.invokevirtual 65, 3) := by decide +kernel
theorem dX0_takeOffTheEnd_33 : decode cX0_takeOffTheEnd 33 = .ok (.i2l, 1) := by decide +kernel
theorem dX0_takeOffTheEnd_34 : decode cX0_takeOffTheEnd 34 = .ok (.lmul, 1) := by decide +kernel
theorem dX0_takeOffTheEnd_35 : decode cX0_takeOffTheEnd 35 = .ok (.iload_n 2, 1) := by decide +kernel
theorem dX0_takeOffTheEnd_36 : decode cX0_takeOffTheEnd 36 = .ok (.i2l, 1) := by decide +kernel
theorem dX0_takeOffTheEnd_37 : decode cX0_takeOffTheEnd 37 = .ok (.ldiv, 1) := by decide +kernel
theorem dX0_takeOffTheEnd_38 : decode cX0_takeOffTheEnd 38 = .ok (.invokevirtual 90, 3) := by decide +kernel
theorem dX0_takeOffTheEnd_41 : decode cX0_takeOffTheEnd 41 = .ok (.ireturn, 1) := by decide +kernel
set_option maxRecDepth 20000 in
theorem ggX0_keepPart_X0_scalePayments : GoodIn wsX0_keepPart wsX0_scalePayments := goodIn_r _ [6, 7, 8, 9, 10, 11, 5, 12, 13, 14, 15, 16, 17, 18, 19, 39, 40, 41, 42, 43, 44, 45, 46, 47, 48, 49] (by decide +kernel) (by decide +kernel)
set_option maxRecDepth 20000 in
theorem gX0_keepPart_X0_scalePayments : GoodIn wsX0_keepPart (wsV RX0 83 RX0 yX0_scalePayments wsX0_scalePayments) := goodIn_app (goodIn_of _ (by decide +kernel)) ggX0_keepPart_X0_scalePayments
set_option maxRecDepth 20000 in
theorem ggX0_keepPart_X0_percentOf : GoodIn wsX0_keepPart wsX0_percentOf := goodIn_r _ [15, 16] (by decide +kernel) (by decide +kernel)
set_option maxRecDepth 20000 in
theorem gX0_keepPart_X0_percentOf : GoodIn wsX0_keepPart (va_wsS RX0 80 yX0_percentOf wsX0_percentOf) := goodIn_app (goodIn_of _ (by decide +kernel)) ggX0_keepPart_X0_percentOf
set_option maxRecDepth 20000 in
theorem ggX0_keepPart_X0_giveUp : GoodIn wsX0_keepPart wsX0_giveUp := goodIn_r _ [23, 1, 24, 25, 26, 27, 5, 28, 29, 7, 10, 11, 12, 30, 31, 32, 33, 8, 9, 34, 17, 18, 19, 35, 36, 37, 38, 39, 40, 41, 42, 43, 44, 45, 46, 47, 48, 49] (by decide +kernel) (by decide +kernel)
set_option maxRecDepth 20000 in
theorem gX0_keepPart_X0_giveUp : GoodIn wsX0_keepPart (wsV RX0 90 RX0 yX0_giveUp wsX0_giveUp) := goodIn_app (goodIn_of _ (by decide +kernel)) ggX0_keepPart_X0_giveUp
theorem dX0_keepPart_0 : decode cX0_keepPart 0 = .ok (.aload_n 0, 1) := by decide +kernel
theorem dX0_keepPart_1 : decode cX0_keepPart 1 = .ok (.iload_n 1, 1) := by decide +kernel
theorem dX0_keepPart_2 : decode cX0_keepPart 2 = .ok (.invokevirtual 83, 3) := by decide +kernel
theorem dX0_keepPart_5 : decode cX0_keepPart 5 = .ok (.aload_n 0, 1) := by decide +kernel
theorem dX0_keepPart_6 : decode cX0_keepPart 6 = .ok (.aload_n 0, 1) := by decide +kernel
theorem dX0_keepPart_7 : decode cX0_keepPart 7 = .ok (.getfield 48, 3) := by decide +kernel
theorem dX0_keepPart_10 : decode cX0_keepPart 10 = .ok (.iload_n 1, 1) := by decide +kernel
theorem dX0_keepPart_11 : decode cX0_keepPart 11 = .ok (.invokestatic 80, 3) := by decide +kernel
theorem dX0_keepPart_14 : decode cX0_keepPart 14 = .ok (.invokevirtual 90, 3) := by decide +kernel
theorem dX0_keepPart_17 : decode cX0_keepPart 17 = .ok (.ireturn, 1) := by decide +kernel
set_option maxRecDepth 20000 in
theorem ggX0_scalePayments_X0_at : GoodIn wsX0_scalePayments wsX0_at := goodIn_r _ [7] (by decide +kernel) (by decide +kernel)
set_option maxRecDepth 20000 in
theorem gX0_scalePayments_X0_at : GoodIn wsX0_scalePayments (va_wsS RX0 55 yX0_at wsX0_at) := goodIn_app (goodIn_of _ (by decide +kernel)) ggX0_scalePayments_X0_at
set_option maxRecDepth 20000 in
theorem ggX0_scalePayments_X0_percentOf : GoodIn wsX0_scalePayments wsX0_percentOf := goodIn_r _ [10, 11] (by decide +kernel) (by decide +kernel)
set_option maxRecDepth 20000 in
theorem gX0_scalePayments_X0_percentOf : GoodIn wsX0_scalePayments (va_wsS RX0 80 yX0_percentOf wsX0_percentOf) := goodIn_app (goodIn_of _ (by decide +kernel)) ggX0_scalePayments_X0_percentOf
set_option maxRecDepth 20000 in
theorem ggX0_scalePayments_X0_put : GoodIn wsX0_scalePayments wsX0_put := goodIn_r _ [14] (by decide +kernel) (by decide +kernel)
set_option maxRecDepth 20000 in
theorem gX0_scalePayments_X0_put : GoodIn wsX0_scalePayments (va_wsS RX0 37 yX0_put wsX0_put) := goodIn_app (goodIn_of _ (by decide +kernel)) ggX0_scalePayments_X0_put
theorem dX0_scalePayments_0 : decode cX0_scalePayments 0 = .ok (.aload_n 0, 1) := by decide +kernel
theorem dX0_scalePayments_1 : decode cX0_scalePayments 1 = .ok (.getfield 52, 3) := by decide +kernel
theorem dX0_scalePayments_4 : decode cX0_scalePayments 4 = .ok (.istore_n 2, 1) := by decide +kernel
theorem dX0_scalePayments_5 : decode cX0_scalePayments 5 = .ok (.iload_n 2, 1) := by decide +kernel
theorem dX0_scalePayments_6 : decode cX0_scalePayments 6 = .ok (.aload_n 0, 1) := by decide +kernel
theorem dX0_scalePayments_7 : decode cX0_scalePayments 7 = .ok (.getfield 27, 3) := by decide +kernel
theorem dX0_scalePayments_10 : decode cX0_scalePayments 10 = .ok (.if_icmp .ge 31, 3) := by decide +kernel
theorem dX0_scalePayments_13 : decode cX0_scalePayments 13 = .ok (.aload_n 0, 1) := by decide +kernel
theorem dX0_scalePayments_14 : decode cX0_scalePayments 14 = .ok (.getfield 30, 3) := by decide +kernel
theorem dX0_scalePayments_17 : decode cX0_scalePayments 17 = .ok (.iload_n 2, 1) := by decide +kernel
theorem dX0_scalePayments_18 : decode cX0_scalePayments 18 = .ok (.aload_n 0, 1) := by decide +kernel
theorem dX0_scalePayments_19 : decode cX0_scalePayments 19 = .ok (.getfield 30, 3) := by decide +kernel
theorem dX0_scalePayments_22 : decode cX0_scalePayments 22 = .ok (.iload_n 2, 1) := by decide +kernel
theorem dX0_scalePayments_23 : decode cX0_scalePayments 23 = .ok (.invokestatic 55, 3) := by decide +kernel
theorem dX0_scalePayments_26 : decode cX0_scalePayments 26 = .ok (.i2l, 1) := by decide +kernel
theorem dX0_scalePayments_27 : decode cX0_scalePayments 27 = .ok (.iload_n 1, 1) := by decide +kernel
theorem dX0_scalePayments_28 : decode cX0_scalePayments 28 = .ok (.invokestatic 80, 3) := by decide +kernel
theorem dX0_scalePayments_31 : decode cX0_scalePayments 31 = .ok (.l2i, 1) := by decide +kernel
theorem dX0_scalePayments_32 : decode cX0_scalePayments 32 = .ok (.invokestatic 37, 3) := by decide +kernel
theorem dX0_scalePayments_35 : decode cX0_scalePayments 35 = .ok (.iinc 2 1, 3) := by decide +kernel
theorem dX0_scalePayments_38 : decode cX0_scalePayments 38 = .ok (.goto (-33), 3) := by decide +kernel
theorem dX0_scalePayments_41 : decode cX0_scalePayments 41 = .ok (.return_, 1) := by decide +kernel
theorem dX0_percentOf_0 : decode cX0_percentOf 0 = .ok (.lload_n 0, 1) := by decide +kernel
theorem dX0_percentOf_1 : decode cX0_percentOf 1 = .ok (.iload_n 2, 1) := by decide +kernel
theorem dX0_percentOf_2 : decode cX0_percentOf 2 = .ok (.i2l, 1) := by decide +kernel
theorem dX0_percentOf_3 : decode cX0_percentOf 3 = .ok (.lmul, 1) := by decide +kernel
theorem dX0_percentOf_4 : decode cX0_percentOf 4 = .ok (.ldc2_w 94, 3) := by decide +kernel
theorem dX0_percentOf_7 : decode cX0_percentOf 7 = .ok (.ldiv, 1) := by decide +kernel
theorem dX0_percentOf_8 : decode cX0_percentOf 8 = .ok (.lreturn, 1) := by decide +kernel
set_option maxRecDepth 20000 in
theorem ggX0_followDebt_X0_debtNow : GoodIn wsX0_followDebt wsX0_debtNow := goodIn_r _ [7, 8, 9, 10, 11, 6, 12, 27, 28, 29, 30, 31, 32, 33, 34, 35, 36, 37] (by decide +kernel) (by decide +kernel)
set_option maxRecDepth 20000 in
theorem gX0_followDebt_X0_debtNow : GoodIn wsX0_followDebt (wsV RX0 44 RX0 yX0_debtNow wsX0_debtNow) := goodIn_app (goodIn_of _ (by decide +kernel)) ggX0_followDebt_X0_debtNow
set_option maxRecDepth 20000 in
theorem ggX0_followDebt_X0_layDebts : GoodIn wsX0_followDebt wsX0_layDebts := goodIn_r _ [16, 8, 17, 9, 18, 19, 20, 21, 6, 22, 10, 11, 12, 23, 24, 25, 26, 27, 28, 29, 30, 31, 32, 33, 34, 35, 36, 37] (by decide +kernel) (by decide +kernel)
set_option maxRecDepth 20000 in
theorem gX0_followDebt_X0_layDebts : GoodIn wsX0_followDebt (wsV RX0 41 RX0 yX0_layDebts wsX0_layDebts) := goodIn_app (goodIn_of _ (by decide +kernel)) ggX0_followDebt_X0_layDebts
theorem dX0_followDebt_0 : decode cX0_followDebt 0 = .ok (.aload_n 0, 1) := by decide +kernel
theorem dX0_followDebt_1 : decode cX0_followDebt 1 = .ok (.invokevirtual 44, 3) := by decide +kernel
theorem dX0_followDebt_4 : decode cX0_followDebt 4 = .ok (.i2l, 1) := by decide +kernel
theorem dX0_followDebt_5 : decode cX0_followDebt 5 = .ok (.lstore_n 1, 1) := by decide +kernel
theorem dX0_followDebt_6 : decode cX0_followDebt 6 = .ok (.aload_n 0, 1) := by decide +kernel
theorem dX0_followDebt_7 : decode cX0_followDebt 7 = .ok (.invokevirtual 41, 3) := by decide +kernel
theorem dX0_followDebt_10 : decode cX0_followDebt 10 = .ok (.aload_n 0, 1) := by decide +kernel
theorem dX0_followDebt_11 : decode cX0_followDebt 11 = .ok (.dup, 1) := by decide +kernel
theorem dX0_followDebt_12 : decode cX0_followDebt 12 = .ok (.getfield 48, 3) := by decide +kernel
theorem dX0_followDebt_15 : decode cX0_followDebt 15 = .ok (.aload_n 0, 1) := by decide +kernel
theorem dX0_followDebt_16 : decode cX0_followDebt 16 = .ok (.invokevirtual 44, 3) := by decide +kernel
theorem dX0_followDebt_19 : decode cX0_followDebt 19 = .ok (.i2l, 1) := by decide +kernel
theorem dX0_followDebt_20 : decode cX0_followDebt 20 = .ok (.lload_n 1, 1) := by decide +kernel
theorem dX0_followDebt_21 : decode cX0_followDebt 21 = .ok (.lsub, 1) := by decide +kernel
theorem dX0_followDebt_22 : decode cX0_followDebt 22 = .ok (.ladd, 1) := by decide +kernel
theorem dX0_followDebt_23 : decode cX0_followDebt 23 = .ok (.putfield 48, 3) := by decide +kernel
theorem dX0_followDebt_26 : decode cX0_followDebt 26 = .ok (.aload_n 0, 1) := by decide +kernel
theorem dX0_followDebt_27 : decode cX0_followDebt 27 = .ok (.getfield 48, 3) := by decide +kernel
theorem dX0_followDebt_30 : decode cX0_followDebt 30 = .ok (.lconst 0, 1) := by decide +kernel
theorem dX0_followDebt_31 : decode cX0_followDebt 31 = .ok (.lcmp, 1) := by decide +kernel
theorem dX0_followDebt_32 : decode cX0_followDebt 32 = .ok (.ifCond .ge 21, 3) := by decide +kernel
theorem dX0_followDebt_35 : decode cX0_followDebt 35 = .ok (.aload_n 0, 1) := by decide +kernel
theorem dX0_followDebt_36 : decode cX0_followDebt 36 = .ok (.dup, 1) := by decide +kernel
theorem dX0_followDebt_37 : decode cX0_followDebt 37 = .ok (.getfield 96, 3) := by decide +kernel
theorem dX0_followDebt_40 : decode cX0_followDebt 40 = .ok (.aload_n 0, 1) := by decide +kernel
theorem dX0_followDebt_41 : decode cX0_followDebt 41 = .ok (.getfield 48, 3) := by decide +kernel
theorem dX0_followDebt_44 : decode cX0_followDebt 44 = .ok (.lsub, 1) := by decide +kernel
theorem dX0_followDebt_45 : decode cX0_followDebt 45 = .ok (.putfield 96, 3) := by decide +kernel
theorem dX0_followDebt_48 : decode cX0_followDebt 48 = .ok (.aload_n 0, 1) := by decide +kernel
theorem dX0_followDebt_49 : decode cX0_followDebt 49 = .ok (.lconst 0, 1) := by decide +kernel
theorem dX0_followDebt_50 : decode cX0_followDebt 50 = .ok (.putfield 48, 3) := by decide +kernel
theorem dX0_followDebt_53 : decode cX0_followDebt 53 = .ok (.return_, 1) := by decide +kernel
set_option maxRecDepth 20000 in
theorem ggX0_giveUp_X0_debtNow : GoodIn wsX0_giveUp wsX0_debtNow := goodIn_r _ [7, 8, 9, 10, 11, 6, 12, 27, 28, 29, 30, 31, 32, 33, 34, 35, 36, 37] (by decide +kernel) (by decide +kernel)
set_option maxRecDepth 20000 in
theorem gX0_giveUp_X0_debtNow : GoodIn wsX0_giveUp (wsV RX0 44 RX0 yX0_debtNow wsX0_debtNow) := goodIn_app (goodIn_of _ (by decide +kernel)) ggX0_giveUp_X0_debtNow
set_option maxRecDepth 20000 in
theorem ggX0_giveUp_X0_layDebts : GoodIn wsX0_giveUp wsX0_layDebts := goodIn_r _ [16, 8, 17, 9, 18, 19, 20, 21, 6, 22, 10, 11, 12, 23, 24, 25, 26, 27, 28, 29, 30, 31, 32, 33, 34, 35, 36, 37] (by decide +kernel) (by decide +kernel)
set_option maxRecDepth 20000 in
theorem gX0_giveUp_X0_layDebts : GoodIn wsX0_giveUp (wsV RX0 41 RX0 yX0_layDebts wsX0_layDebts) := goodIn_app (goodIn_of _ (by decide +kernel)) ggX0_giveUp_X0_layDebts
theorem dX0_giveUp_0 : decode cX0_giveUp 0 = .ok (.aload_n 0, 1) := by decide +kernel
theorem dX0_giveUp_1 : decode cX0_giveUp 1 = .ok (.invokevirtual 44, 3) := by decide +kernel
theorem dX0_giveUp_4 : decode cX0_giveUp 4 = .ok (.i2l, 1) := by decide +kernel
theorem dX0_giveUp_5 : decode cX0_giveUp 5 = .ok (.lstore_n 3, 1) := by decide +kernel
theorem dX0_giveUp_6 : decode cX0_giveUp 6 = .ok (.aload_n 0, 1) := by decide +kernel
theorem dX0_giveUp_7 : decode cX0_giveUp 7 = .ok (.invokevirtual 41, 3) := by decide +kernel
theorem dX0_giveUp_10 : decode cX0_giveUp 10 = .ok (.lload_n 3, 1) := by decide +kernel
theorem dX0_giveUp_11 : decode cX0_giveUp 11 = .ok (.aload_n 0, 1) := by decide +kernel
theorem dX0_giveUp_12 : decode cX0_giveUp 12 = .ok (.invokevirtual 44, 3) := by decide +kernel
theorem dX0_giveUp_15 : decode cX0_giveUp 15 = .ok (.i2l, 1) := by decide +kernel
theorem dX0_giveUp_16 : decode cX0_giveUp 16 = .ok (.lsub, 1) := by decide +kernel
theorem dX0_giveUp_17 : decode cX0_giveUp 17 = .ok (.aload_n 0, 1) := by decide +kernel
theorem dX0_giveUp_18 : decode cX0_giveUp 18 = .ok (.getfield 48, 3) := by decide +kernel
theorem dX0_giveUp_21 : decode cX0_giveUp 21 = .ok (.lload_n 1, 1) := by decide +kernel
theorem dX0_giveUp_22 : decode cX0_giveUp 22 = .ok (.lsub, 1) := by decide +kernel
theorem dX0_giveUp_23 : decode cX0_giveUp 23 = .ok (.lsub, 1) := by decide +kernel
theorem dX0_giveUp_24 : decode cX0_giveUp 24 = .ok (.lstore 5, 2) := by decide +kernel
theorem dX0_giveUp_26 : decode cX0_giveUp 26 = .ok (.aload_n 0, 1) := by decide +kernel
theorem dX0_giveUp_27 : decode cX0_giveUp 27 = .ok (.lload_n 1, 1) := by decide +kernel
theorem dX0_giveUp_28 : decode cX0_giveUp 28 = .ok (.putfield 48, 3) := by decide +kernel
theorem dX0_giveUp_31 : decode cX0_giveUp 31 = .ok (.aload_n 0, 1) := by decide +kernel
theorem dX0_giveUp_32 : decode cX0_giveUp 32 = .ok (.dup, 1) := by decide +kernel
theorem dX0_giveUp_33 : decode cX0_giveUp 33 = .ok (.getfield 96, 3) := by decide +kernel
theorem dX0_giveUp_36 : decode cX0_giveUp 36 = .ok (.lload 5, 2) := by decide +kernel
theorem dX0_giveUp_38 : decode cX0_giveUp 38 = .ok (.ladd, 1) := by decide +kernel
theorem dX0_giveUp_39 : decode cX0_giveUp 39 = .ok (.putfield 96, 3) := by decide +kernel
theorem dX0_giveUp_42 : decode cX0_giveUp 42 = .ok (.lload 5, 2) := by decide +kernel
theorem dX0_giveUp_44 : decode cX0_giveUp 44 = .ok (.l2i, 1) := by decide +kernel
theorem dX0_giveUp_45 : decode cX0_giveUp 45 = .ok (.ireturn, 1) := by decide +kernel
