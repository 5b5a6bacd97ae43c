theorem dX2_init_0 : decode cX2_init 0 = .ok (.aload_n 0, 1) := by decide +kernel
theorem dX2_init_1 : decode cX2_init 1 = .ok (.invokespecial 1, 3) := by decide +kernel
theorem dX2_init_4 : decode cX2_init 4 = .ok (.aload_n 0, 1) := by decide +kernel
theorem dX2_init_5 : decode cX2_init 5 = .ok (.sipush 720, 3) := by decide +kernel
theorem dX2_init_8 : decode cX2_init 8 = .ok (.newarray .int, 2) := by decide +kernel
theorem dX2_init_10 : decode cX2_init 10 = .ok (.putfield 7, 3) := by decide +kernel
theorem dX2_init_13 : decode cX2_init 13 = .ok (.aload_n 0, 1) := by decide +kernel
theorem dX2_init_14 : decode cX2_init 14 = .ok (.bipush 6, 2) := by decide +kernel
theorem dX2_init_16 : decode cX2_init 16 = .ok (.newarray .int, 2) := by decide +kernel
theorem dX2_init_18 : decode cX2_init 18 = .ok (.putfield 13, 3) := by decide +kernel
theorem dX2_init_21 : decode cX2_init 21 = .ok (.aload_n 0, 1) := by decide +kernel
theorem dX2_init_22 : decode cX2_init 22 = .ok (.bipush 6, 2) := by decide +kernel
theorem dX2_init_24 : decode cX2_init 24 = .ok (.newarray .int, 2) := by decide +kernel
theorem dX2_init_26 : decode cX2_init 26 = .ok (.putfield 16, 3) := by decide +kernel
theorem dX2_init_29 : decode cX2_init 29 = .ok (.aload_n 0, 1) := by decide +kernel
theorem dX2_init_30 : decode cX2_init 30 = .ok (.bipush 6, 2) := by decide +kernel
theorem dX2_init_32 : decode cX2_init 32 = .ok (.newarray .int, 2) := by decide +kernel
theorem dX2_init_34 : decode cX2_init 34 = .ok (.putfield 19, 3) := by decide +kernel
theorem dX2_init_37 : decode cX2_init 37 = .ok (.aload_n 0, 1) := by decide +kernel
theorem dX2_init_38 : decode cX2_init 38 = .ok (.bipush 6, 2) := by decide +kernel
theorem dX2_init_40 : decode cX2_init 40 = .ok (.newarray .int, 2) := by decide +kernel
theorem dX2_init_42 : decode cX2_init 42 = .ok (.putfield 22, 3) := by decide +kernel
theorem dX2_init_45 : decode cX2_init 45 = .ok (.aload_n 0, 1) := by decide +kernel
theorem dX2_init_46 : decode cX2_init 46 = .ok (.bipush 6, 2) := by decide +kernel
theorem dX2_init_48 : decode cX2_init 48 = .ok (.newarray .int, 2) := by decide +kernel
theorem dX2_init_50 : decode cX2_init 50 = .ok (.putfield 25, 3) := by decide +kernel
theorem dX2_init_53 : decode cX2_init 53 = .ok (.aload_n 0, 1) := by decide +kernel
theorem dX2_init_54 : decode cX2_init 54 = .ok (.bipush 6, 2) := by decide +kernel
theorem dX2_init_56 : decode cX2_init 56 = .ok (.newarray .int, 2) := by decide +kernel
theorem dX2_init_58 : decode cX2_init 58 = .ok (.putfield 28, 3) := by decide +kernel
theorem dX2_init_61 : decode cX2_init 61 = .ok (.aload_n 0, 1) := by decide +kernel
theorem dX2_init_62 : decode cX2_init 62 = .ok (.bipush 6, 2) := by decide +kernel
theorem dX2_init_64 : decode cX2_init 64 = .ok (.newarray .int, 2) := by decide +kernel
theorem dX2_init_66 : decode cX2_init 66 = .ok (.putfield 31, 3) := by decide +kernel
theorem dX2_init_69 : decode cX2_init 69 = .ok (.aload_n 0, 1) := by decide +kernel
theorem dX2_init_70 : decode cX2_init 70 = .ok (.bipush 6, 2) := by decide +kernel
theorem dX2_init_72 : decode cX2_init 72 = .ok (.newarray .int, 2) := by decide +kernel
theorem dX2_init_74 : decode cX2_init 74 = .ok (.putfield 34, 3) := by decide +kernel
theorem dX2_init_77 : decode cX2_init 77 = .ok (.aload_n 0, 1) := by decide +kernel
theorem dX2_init_78 : decode cX2_init 78 = .ok (.bipush 6, 2) := by decide +kernel
theorem dX2_init_80 : decode cX2_init 80 = .ok (.newarray .int, 2) := by decide +kernel
theorem dX2_init_82 : decode cX2_init 82 = .ok (.putfield 37, 3) := by decide +kernel
theorem dX2_init_85 : decode cX2_init 85 = .ok (.aload_n 0, 1) := by decide +kernel
theorem dX2_init_86 : decode cX2_init 86 = .ok (.bipush 6, 2) := by decide +kernel
theorem dX2_init_88 : decode cX2_init 88 = .ok (.newarray .int, 2) := by decide +kernel
theorem dX2_init_90 : decode cX2_init 90 = .ok (.putfield 40, 3) := by decide +kernel
theorem dX2_init_93 : decode cX2_init 93 = .ok (.return_, 1) := by decide +kernel
theorem dX2_thrown_0 : decode cX2_thrown 0 = .ok (.aload_n 0, 1) := by decide +kernel
theorem dX2_thrown_1 : decode cX2_thrown 1 = .ok (.getfield 43, 3) := by decide +kernel
theorem dX2_thrown_4 : decode cX2_thrown 4 = .ok (.ireturn, 1) := by decide +kernel
theorem dX2_fails_0 : decode cX2_fails 0 = .ok (.aload_n 0, 1) := by decide +kernel
theorem dX2_fails_1 : decode cX2_fails 1 = .ok (.iload_n 1, 1) := by decide +kernel
theorem dX2_fails_2 : decode cX2_fails 2 = .ok (.putfield 43, 3) := by decide +kernel
theorem dX2_fails_5 : decode cX2_fails 5 = .ok (.iconst 0, 1) := by decide +kernel
theorem dX2_fails_6 : decode cX2_fails 6 = .ok (.ireturn, 1) := by decide +kernel
theorem dX2_in_0 : decode cX2_in 0 = .ok (.iload_n 0, 1) := by decide +kernel
theorem dX2_in_1 : decode cX2_in 1 = .ok (.iload_n 1, 1) := by decide +kernel
theorem dX2_in_2 : decode cX2_in 2 = .ok (.if_icmp .lt 12, 3) := by decide +kernel
theorem dX2_in_5 : decode cX2_in 5 = .ok (.iload_n 0, 1) := by decide +kernel
theorem dX2_in_6 : decode cX2_in 6 = .ok (.iload_n 2, 1) := by decide +kernel
theorem dX2_in_7 : decode cX2_in 7 = .ok (.if_icmp .gt 7, 3) := by decide +kernel
theorem dX2_in_10 : decode cX2_in 10 = .ok (.iconst 1, 1) := by decide +kernel
theorem dX2_in_11 : decode cX2_in 11 = .ok (.goto 4, 3) := by decide +kernel
theorem dX2_in_14 : decode cX2_in 14 = .ok (.iconst 0, 1) := by decide +kernel
theorem dX2_in_15 : decode cX2_in 15 = .ok (.ireturn, 1) := by decide +kernel
set_option maxRecDepth 20000 in
theorem ggX2_isNoLease_X2_in : GoodIn wsX2_isNoLease wsX2_in := goodIn_r _ [5] (by decide +kernel) (by decide +kernel)
set_option maxRecDepth 20000 in
theorem gX2_isNoLease_X2_in : GoodIn wsX2_isNoLease (va_wsS RX2 50 yX2_in wsX2_in) := goodIn_app (goodIn_of _ (by decide +kernel)) ggX2_isNoLease_X2_in
theorem dX2_isNoLease_0 : decode cX2_isNoLease 0 = .ok (.iload_n 1, 1) := by decide +kernel
theorem dX2_isNoLease_1 : decode cX2_isNoLease 1 = .ok (.iconst 0, 1) := by decide +kernel
theorem dX2_isNoLease_2 : decode cX2_isNoLease 2 = .ok (.aload_n 0, 1) := by decide +kernel
theorem dX2_isNoLease_3 : decode cX2_isNoLease 3 = .ok (.getfield 47, 3) := by decide +kernel
theorem dX2_isNoLease_6 : decode cX2_isNoLease 6 = .ok (.iconst 1, 1) := by decide +kernel
theorem dX2_isNoLease_7 : decode cX2_isNoLease 7 = .ok (.isub, 1) := by decide +kernel
theorem dX2_isNoLease_8 : decode cX2_isNoLease 8 = .ok (.invokestatic 50, 3) := by decide +kernel
theorem dX2_isNoLease_11 : decode cX2_isNoLease 11 = .ok (.ifCond .ne 7, 3) := by decide +kernel
theorem dX2_isNoLease_14 : decode cX2_isNoLease 14 = .ok (.iconst 1, 1) := by decide +kernel
theorem dX2_isNoLease_15 : decode cX2_isNoLease 15 = .ok (.goto 4, 3) := by decide +kernel
theorem dX2_isNoLease_18 : decode cX2_isNoLease 18 = .ok (.iconst 0, 1) := by decide +kernel
theorem dX2_isNoLease_19 : decode cX2_isNoLease 19 = .ok (.ireturn, 1) := by decide +kernel
theorem dX2_left_0 : decode cX2_left 0 = .ok (.aload_n 0, 1) := by decide +kernel
theorem dX2_left_1 : decode cX2_left 1 = .ok (.getfield 13, 3) := by decide +kernel
theorem dX2_left_4 : decode cX2_left 4 = .ok (.iload_n 1, 1) := by decide +kernel
theorem dX2_left_5 : decode cX2_left 5 = .ok (.iaload, 1) := by decide +kernel
theorem dX2_left_6 : decode cX2_left 6 = .ok (.aload_n 0, 1) := by decide +kernel
theorem dX2_left_7 : decode cX2_left 7 = .ok (.getfield 16, 3) := by decide +kernel
theorem dX2_left_10 : decode cX2_left 10 = .ok (.iload_n 1, 1) := by decide +kernel
theorem dX2_left_11 : decode cX2_left 11 = .ok (.iaload, 1) := by decide +kernel
theorem dX2_left_12 : decode cX2_left 12 = .ok (.isub, 1) := by decide +kernel
theorem dX2_left_13 : decode cX2_left 13 = .ok (.ireturn, 1) := by decide +kernel
theorem dX2_worth_0 : decode cX2_worth 0 = .ok (.lconst 0, 1) := by decide +kernel
theorem dX2_worth_1 : decode cX2_worth 1 = .ok (.lstore 4, 2) := by decide +kernel
theorem dX2_worth_3 : decode cX2_worth 3 = .ok (.ldc2_w 54, 3) := by decide +kernel
theorem dX2_worth_6 : decode cX2_worth 6 = .ok (.iload_n 3, 1) := by decide +kernel
theorem dX2_worth_7 : decode cX2_worth 7 = .ok (.i2l, 1) := by decide +kernel
theorem dX2_worth_8 : decode cX2_worth 8 = .ok (.ladd, 1) := by decide +kernel
theorem dX2_worth_9 : decode cX2_worth 9 = .ok (.lstore 6, 2) := by decide +kernel
theorem dX2_worth_11 : decode cX2_worth 11 = .ok (.aload_n 0, 1) := by decide +kernel
theorem dX2_worth_12 : decode cX2_worth 12 = .ok (.getfield 13, 3) := by decide +kernel
theorem dX2_worth_15 : decode cX2_worth 15 = .ok (.iload_n 1, 1) := by decide +kernel
theorem dX2_worth_16 : decode cX2_worth 16 = .ok (.iaload, 1) := by decide +kernel
theorem dX2_worth_17 : decode cX2_worth 17 = .ok (.iconst 1, 1) := by decide +kernel
theorem dX2_worth_18 : decode cX2_worth 18 = .ok (.isub, 1) := by decide +kernel
theorem dX2_worth_19 : decode cX2_worth 19 = .ok (.istore 8, 2) := by decide +kernel
theorem dX2_worth_21 : decode cX2_worth 21 = .ok (.iload 8, 2) := by decide +kernel
theorem dX2_worth_23 : decode cX2_worth 23 = .ok (.iload_n 2, 1) := by decide +kernel
theorem dX2_worth_24 : decode cX2_worth 24 = .ok (.if_icmp .lt 39, 3) := by decide +kernel
theorem dX2_worth_27 : decode cX2_worth 27 = .ok (.lload 4, 2) := by decide +kernel
theorem dX2_worth_29 : decode cX2_worth 29 = .ok (.aload_n 0, 1) := by decide +kernel
theorem dX2_worth_30 : decode cX2_worth 30 = .ok (.getfield 7, 3) := by decide +kernel
theorem dX2_worth_33 : decode cX2_worth 33 = .ok (.bipush 120, 2) := by decide +kernel
theorem dX2_worth_35 : decode cX2_worth 35 = .ok (.iload_n 1, 1) := by decide +kernel
theorem dX2_worth_36 : decode cX2_worth 36 = .ok (.imul, 1) := by decide +kernel
theorem dX2_worth_37 : decode cX2_worth 37 = .ok (.iload 8, 2) := by decide +kernel
theorem dX2_worth_39 : decode cX2_worth 39 = .ok (.iadd, 1) := by decide +kernel
theorem dX2_worth_40 : decode cX2_worth 40 = .ok (.iaload, 1) := by decide +kernel
theorem dX2_worth_41 : decode cX2_worth 41 = .ok (.i2l, 1) := by decide +kernel
theorem dX2_worth_42 : decode cX2_worth 42 = .ok (.ladd, 1) := by decide +kernel
theorem dX2_worth_43 : decode cX2_worth 43 = .ok (.ldc2_w 54, 3) := by decide +kernel
theorem dX2_worth_46 : decode cX2_worth 46 = .ok (.lmul, 1) := by decide +kernel
theorem dX2_worth_47 : decode cX2_worth 47 = .ok (.lload 6, 2) := by decide +kernel
theorem dX2_worth_49 : decode cX2_worth 49 = .ok (.ladd, 1) := by decide +kernel
theorem dX2_worth_50 : decode cX2_worth 50 = .ok (.lconst 1, 1) := by decide +kernel
theorem dX2_worth_51 : decode cX2_worth 51 = .ok (.lsub, 1) := by decide +kernel
theorem dX2_worth_52 : decode cX2_worth 52 = .ok (.lload 6, 2) := by decide +kernel
theorem dX2_worth_54 : decode cX2_worth 54 = .ok (.ldiv, 1) := by decide +kernel
theorem dX2_worth_55 : decode cX2_worth 55 = .ok (.lstore 4, 2) := by decide +kernel
theorem dX2_worth_57 : decode cX2_worth 57 = .ok (.iinc 8 (-1), 3) := by decide +kernel
theorem dX2_worth_60 : decode cX2_worth 60 = .ok (.goto (-39), 3) := by decide +kernel
theorem dX2_worth_63 : decode cX2_worth 63 = .ok (.lload 4, 2) := by decide +kernel
theorem dX2_worth_65 : decode cX2_worth 65 = .ok (.l2i, 1) := by decide +kernel
theorem dX2_worth_66 : decode cX2_worth 66 = .ok (.ireturn, 1) := by decide +kernel
set_option maxRecDepth 20000 in
theorem ggX2_worthNow_X2_worth : GoodIn wsX2_worthNow wsX2_worth := goodIn_r _ [7, 8, 9, 10, 11, 12, 13, 14, 15, 16, 17, 18, 19, 20, 21, 22, 23] (by decide +kernel) (by decide +kernel)
set_option maxRecDepth 20000 in
theorem gX2_worthNow_X2_worth : GoodIn wsX2_worthNow (wsV RX2 56 RX2 yX2_worth wsX2_worth) := goodIn_app (goodIn_of _ (by decide +kernel)) ggX2_worthNow_X2_worth
theorem dX2_worthNow_0 : decode cX2_worthNow 0 = .ok (.aload_n 0, 1) := by decide +kernel
theorem dX2_worthNow_1 : decode cX2_worthNow 1 = .ok (.iload_n 1, 1) := by decide +kernel
theorem dX2_worthNow_2 : decode cX2_worthNow 2 = .ok (.aload_n 0, 1) := by decide +kernel
theorem dX2_worthNow_3 : decode cX2_worthNow 3 = .ok (.getfield 16, 3) := by decide +kernel
theorem dX2_worthNow_6 : decode cX2_worthNow 6 = .ok (.iload_n 1, 1) := by decide +kernel
theorem dX2_worthNow_7 : decode cX2_worthNow 7 = .ok (.iaload, 1) := by decide +kernel
theorem dX2_worthNow_8 : decode cX2_worthNow 8 = .ok (.aload_n 0, 1) := by decide +kernel
theorem dX2_worthNow_9 : decode cX2_worthNow 9 = .ok (.getfield 19, 3) := by decide +kernel
theorem dX2_worthNow_12 : decode cX2_worthNow 12 = .ok (.iload_n 1, 1) := by decide +kernel
theorem dX2_worthNow_13 : decode cX2_worthNow 13 = .ok (.iaload, 1) := by decide +kernel
theorem dX2_worthNow_14 : decode cX2_worthNow 14 = .ok (.invokevirtual 56, 3) := by decide +kernel
theorem dX2_worthNow_17 : decode cX2_worthNow 17 = .ok (.ireturn, 1) := by decide +kernel
set_option maxRecDepth 20000 in
theorem ggX2_add_X2_in : GoodIn wsX2_add wsX2_in := goodIn_r _ [12] (by decide +kernel) (by decide +kernel)
set_option maxRecDepth 20000 in
theorem gX2_add_X2_in : GoodIn wsX2_add (va_wsS RX2 50 yX2_in wsX2_in) := goodIn_app (goodIn_of _ (by decide +kernel)) ggX2_add_X2_in
set_option maxRecDepth 20000 in
theorem ggX2_add_X2_fails : GoodIn wsX2_add wsX2_fails := goodIn_r _ [16, 1, 27, 28, 29, 30, 31, 32, 33, 34, 35, 36, 37, 38, 39] (by decide +kernel) (by decide +kernel)
set_option maxRecDepth 20000 in
theorem gX2_add_X2_fails : GoodIn wsX2_add (wsV RX2 60 RX2 yX2_fails wsX2_fails) := goodIn_app (goodIn_of _ (by decide +kernel)) ggX2_add_X2_fails
set_option maxRecDepth 20000 in
theorem ggX2_add_X2_worthNow : GoodIn wsX2_add wsX2_worthNow := goodIn_r _ [20, 21, 4, 22, 23, 24, 11, 25, 26, 3, 6, 27, 28, 29, 30, 31, 32, 33, 34, 35, 36, 37, 38, 39] (by decide +kernel) (by decide +kernel)
set_option maxRecDepth 20000 in
theorem gX2_add_X2_worthNow : GoodIn wsX2_add (wsV RX2 64 RX2 yX2_worthNow wsX2_worthNow) := goodIn_app (goodIn_of _ (by decide +kernel)) ggX2_add_X2_worthNow
theorem dX2_add_0 : decode cX2_add 0 = .ok (.aload_n 0, 1) := by decide +kernel
theorem dX2_add_1 : decode cX2_add 1 = .ok (.iconst 0, 1) := by decide +kernel
theorem dX2_add_2 : decode cX2_add 2 = .ok (.putfield 43, 3) := by decide +kernel
theorem dX2_add_5 : decode cX2_add 5 = .ok (.iload_n 1, 1) := by decide +kernel
theorem dX2_add_6 : decode cX2_add 6 = .ok (.iconst 1, 1) := by decide +kernel
theorem dX2_add_7 : decode cX2_add 7 = .ok (.bipush 60, 2) := by decide +kernel
theorem dX2_add_9 : decode cX2_add 9 = .ok (.invokestatic 50, 3) := by decide +kernel
theorem dX2_add_12 : decode cX2_add 12 = .ok (.ifCond .eq 40, 3) := by decide +kernel
theorem dX2_add_15 : decode cX2_add 15 = .ok (.iload_n 2, 1) := by decide +kernel
theorem dX2_add_16 : decode cX2_add 16 = .ok (.iconst 1, 1) := by decide +kernel
theorem dX2_add_17 : decode cX2_add 17 = .ok (.sipush 10000, 3) := by decide +kernel
theorem dX2_add_20 : decode cX2_add 20 = .ok (.invokestatic 50, 3) := by decide +kernel
theorem dX2_add_23 : decode cX2_add 23 = .ok (.ifCond .eq 29, 3) := by decide +kernel
theorem dX2_add_26 : decode cX2_add 26 = .ok (.iload_n 3, 1) := by decide +kernel
theorem dX2_add_27 : decode cX2_add 27 = .ok (.iconst 0, 1) := by decide +kernel
theorem dX2_add_28 : decode cX2_add 28 = .ok (.bipush 12, 2) := by decide +kernel
theorem dX2_add_30 : decode cX2_add 30 = .ok (.invokestatic 50, 3) := by decide +kernel
theorem dX2_add_33 : decode cX2_add 33 = .ok (.ifCond .eq 19, 3) := by decide +kernel
theorem dX2_add_36 : decode cX2_add 36 = .ok (.iload 4, 2) := by decide +kernel
theorem dX2_add_38 : decode cX2_add 38 = .ok (.iconst 0, 1) := by decide +kernel
theorem dX2_add_39 : decode cX2_add 39 = .ok (.sipush 1000, 3) := by decide +kernel
theorem dX2_add_42 : decode cX2_add 42 = .ok (.invokestatic 50, 3) := by decide +kernel
theorem dX2_add_45 : decode cX2_add 45 = .ok (.ifCond .eq 7, 3) := by decide +kernel
theorem dX2_add_48 : decode cX2_add 48 = .ok (.iconst 1, 1) := by decide +kernel
theorem dX2_add_49 : decode cX2_add 49 = .ok (.goto 4, 3) := by decide +kernel
theorem dX2_add_52 : decode cX2_add 52 = .ok (.iconst 0, 1) := by decide +kernel
theorem dX2_add_53 : decode cX2_add 53 = .ok (.istore 8, 2) := by decide +kernel
theorem dX2_add_55 : decode cX2_add 55 = .ok (.iload 8, 2) := by decide +kernel
theorem dX2_add_57 : decode cX2_add 57 = .ok (.ifCond .eq 38, 3) := by decide +kernel
theorem dX2_add_60 : decode cX2_add 60 = .ok (.iload 5, 2) := by decide +kernel
theorem dX2_add_62 : decode cX2_add 62 = .ok (.iconst 0, 1) := by decide +kernel
theorem dX2_add_63 : decode cX2_add 63 = .ok (.sipush 20000, 3) := by decide +kernel
theorem dX2_add_66 : decode cX2_add 66 = .ok (.invokestatic 50, 3) := by decide +kernel
theorem dX2_add_69 : decode cX2_add 69 = .ok (.ifCond .eq 26, 3) := by decide +kernel
theorem dX2_add_72 : decode cX2_add 72 = .ok (.iload 6, 2) := by decide +kernel
theorem dX2_add_74 : decode cX2_add 74 = .ok (.iconst 1, 1) := by decide +kernel
theorem dX2_add_75 : decode cX2_add 75 = .ok (.bipush 120, 2) := by decide +kernel
theorem dX2_add_77 : decode cX2_add 77 = .ok (.invokestatic 50, 3) := by decide +kernel
theorem dX2_add_80 : decode cX2_add 80 = .ok (.ifCond .eq 15, 3) := by decide +kernel
theorem dX2_add_83 : decode cX2_add 83 = .ok (.iload 7, 2) := by decide +kernel
theorem dX2_add_85 : decode cX2_add 85 = .ok (.iconst 0, 1) := by decide +kernel
theorem dX2_add_86 : decode cX2_add 86 = .ok (.sipush 10000, 3) := by decide +kernel
theorem dX2_add_89 : decode cX2_add 89 = .ok (.invokestatic 50, 3) := by decide +kernel
theorem dX2_add_92 : decode cX2_add 92 = .ok (.ifCond .ne 9, 3) := by decide +kernel
theorem dX2_add_95 : decode cX2_add 95 = .ok (.aload_n 0, 1) := by decide +kernel
theorem dX2_add_96 : decode cX2_add 96 = .ok (.iconst 1, 1) := by decide +kernel
theorem dX2_add_97 : decode cX2_add 97 = .ok (.invokevirtual 60, 3) := by decide +kernel
theorem dX2_add_100 : decode cX2_add 100 = .ok (.ireturn, 1) := by decide +kernel
theorem dX2_add_101 : decode cX2_add 101 = .ok (.aload_n 0, 1) := by decide +kernel
theorem dX2_add_102 : decode cX2_add 102 = .ok (.getfield 47, 3) := by decide +kernel
theorem dX2_add_105 : decode cX2_add 105 = .ok (.bipush 6, 2) := by decide +kernel
theorem dX2_add_107 : decode cX2_add 107 = .ok (.if_icmp .ne 9, 3) := by decide +kernel
theorem dX2_add_110 : decode cX2_add 110 = .ok (.aload_n 0, 1) := by decide +kernel
theorem dX2_add_111 : decode cX2_add 111 = .ok (.iconst 2, 1) := by decide +kernel
theorem dX2_add_112 : decode cX2_add 112 = .ok (.invokevirtual 60, 3) := by decide +kernel
theorem dX2_add_115 : decode cX2_add 115 = .ok (.ireturn, 1) := by decide +kernel
theorem dX2_add_116 : decode cX2_add 116 = .ok (.aload_n 0, 1) := by decide +kernel
theorem dX2_add_117 : decode cX2_add 117 = .ok (.getfield 47, 3) := by decide +kernel
theorem dX2_add_120 : decode cX2_add 120 = .ok (.istore 9, 2) := by decide +kernel
theorem dX2_add_122 : decode cX2_add 122 = .ok (.aload_n 0, 1) := by decide +kernel
theorem dX2_add_123 : decode cX2_add 123 = .ok (.dup, 1) := by decide +kernel
theorem dX2_add_124 : decode cX2_add 124 = .ok (.getfield 47, 3) := by decide +kernel
theorem dX2_add_127 : decode cX2_add 127 = .ok (.iconst 1, 1) := by decide +kernel
theorem dX2_add_128 : decode cX2_add 128 = .ok (.iadd, 1) := by decide +kernel
theorem dX2_add_129 : decode cX2_add 129 = .ok (.putfield 47, 3) := by decide +kernel
theorem dX2_add_132 : decode cX2_add 132 = .ok (.aload_n 0, 1) := by decide +kernel
theorem dX2_add_133 : decode cX2_add 133 = .ok (.getfield 13, 3) := by decide +kernel
theorem dX2_add_136 : decode cX2_add 136 = .ok (.iload 9, 2) := by decide +kernel
theorem dX2_add_138 : decode cX2_add 138 = .ok (.iload_n 1, 1) := by decide +kernel
theorem dX2_add_139 : decode cX2_add 139 = .ok (.iastore, 1) := by decide +kernel
theorem dX2_add_140 : decode cX2_add 140 = .ok (.aload_n 0, 1) := by decide +kernel
theorem dX2_add_141 : decode cX2_add 141 = .ok (.getfield 19, 3) := by decide +kernel
theorem dX2_add_144 : decode cX2_add 144 = .ok (.iload 9, 2) := by decide +kernel
theorem dX2_add_146 : decode cX2_add 146 = .ok (.iload 5, 2) := by decide +kernel
theorem dX2_add_148 : decode cX2_add 148 = .ok (.iastore, 1) := by decide +kernel
theorem dX2_add_149 : decode cX2_add 149 = .ok (.aload_n 0, 1) := by decide +kernel
theorem dX2_add_150 : decode cX2_add 150 = .ok (.getfield 22, 3) := by decide +kernel
theorem dX2_add_153 : decode cX2_add 153 = .ok (.iload 9, 2) := by decide +kernel
theorem dX2_add_155 : decode cX2_add 155 = .ok (.iload 6, 2) := by decide +kernel
theorem dX2_add_157 : decode cX2_add 157 = .ok (.iastore, 1) := by decide +kernel
theorem dX2_add_158 : decode cX2_add 158 = .ok (.iconst 0, 1) := by decide +kernel
theorem dX2_add_159 : decode cX2_add 159 = .ok (.istore 10, 2) := by decide +kernel
theorem dX2_add_161 : decode cX2_add 161 = .ok (.iload 10, 2) := by decide +kernel
theorem dX2_add_163 : decode cX2_add 163 = .ok (.iload_n 1, 1) := by decide +kernel
theorem dX2_add_164 : decode cX2_add 164 = .ok (.if_icmp .ge 42, 3) := by decide +kernel
theorem dX2_add_167 : decode cX2_add 167 = .ok (.aload_n 0, 1) := by decide +kernel
theorem dX2_add_168 : decode cX2_add 168 = .ok (.getfield 7, 3) := by decide +kernel
theorem dX2_add_171 : decode cX2_add 171 = .ok (.bipush 120, 2) := by decide +kernel
theorem dX2_add_173 : decode cX2_add 173 = .ok (.iload 9, 2) := by decide +kernel
theorem dX2_add_175 : decode cX2_add 175 = .ok (.imul, 1) := by decide +kernel
theorem dX2_add_176 : decode cX2_add 176 = .ok (.iload 10, 2) := by decide +kernel
theorem dX2_add_178 : decode cX2_add 178 = .ok (.iadd, 1) := by decide +kernel
theorem dX2_add_179 : decode cX2_add 179 = .ok (.iload 10, 2) := by decide +kernel
theorem dX2_add_181 : decode cX2_add 181 = .ok (.iload_n 3, 1) := by decide +kernel
theorem dX2_add_182 : decode cX2_add 182 = .ok (.if_icmp .ge 7, 3) := by decide +kernel
theorem dX2_add_185 : decode cX2_add 185 = .ok (.iconst 0, 1) := by decide +kernel
theorem dX2_add_186 : decode cX2_add 186 = .ok (.goto 13, 3) := by decide +kernel
theorem dX2_add_189 : decode cX2_add 189 = .ok (.iload_n 2, 1) := by decide +kernel
theorem dX2_add_190 : decode cX2_add 190 = .ok (.iload 4, 2) := by decide +kernel
theorem dX2_add_192 : decode cX2_add 192 = .ok (.iload 10, 2) := by decide +kernel
theorem dX2_add_194 : decode cX2_add 194 = .ok (.bipush 12, 2) := by decide +kernel
theorem dX2_add_196 : decode cX2_add 196 = .ok (.idiv, 1) := by decide +kernel
theorem dX2_add_197 : decode cX2_add 197 = .ok (.imul, 1) := by decide +kernel
theorem dX2_add_198 : decode cX2_add 198 = .ok (.iadd, 1) := by decide +kernel
theorem dX2_add_199 : decode cX2_add 199 = .ok (.iastore, 1) := by decide +kernel
theorem dX2_add_200 : decode cX2_add 200 = .ok (.iinc 10 1, 3) := by decide +kernel
theorem dX2_add_203 : decode cX2_add 203 = .ok (.goto (-42), 3) := by decide +kernel
theorem dX2_add_206 : decode cX2_add 206 = .ok (.aload_n 0, 1) := by decide +kernel
theorem dX2_add_207 : decode cX2_add 207 = .ok (.getfield 25, 3) := by decide +kernel
theorem dX2_add_210 : decode cX2_add 210 = .ok (.iload 9, 2) := by decide +kernel
theorem dX2_add_212 : decode cX2_add 212 = .ok (.aload_n 0, 1) := by decide +kernel
theorem dX2_add_213 : decode cX2_add 213 = .ok (.iload 9, 2) := by decide +kernel
theorem dX2_add_215 : decode cX2_add 215 = .ok (.invokevirtual 64, 3) := by decide +kernel
theorem dX2_add_218 : decode cX2_add 218 = .ok (.iastore, 1) := by decide +kernel
theorem dX2_add_219 : decode cX2_add 219 = .ok (.aload_n 0, 1) := by decide +kernel
theorem dX2_add_220 : decode cX2_add 220 = .ok (.getfield 28, 3) := by decide +kernel
theorem dX2_add_223 : decode cX2_add 223 = .ok (.iload 9, 2) := by decide +kernel
theorem dX2_add_225 : decode cX2_add 225 = .ok (.aload_n 0, 1) := by decide +kernel
theorem dX2_add_226 : decode cX2_add 226 = .ok (.getfield 25, 3) := by decide +kernel
theorem dX2_add_229 : decode cX2_add 229 = .ok (.iload 9, 2) := by decide +kernel
theorem dX2_add_231 : decode cX2_add 231 = .ok (.iaload, 1) := by decide +kernel
theorem dX2_add_232 : decode cX2_add 232 = .ok (.iload 7, 2) := by decide +kernel
theorem dX2_add_234 : decode cX2_add 234 = .ok (.iadd, 1) := by decide +kernel
theorem dX2_add_235 : decode cX2_add 235 = .ok (.iastore, 1) := by decide +kernel
theorem dX2_add_236 : decode cX2_add 236 = .ok (.iload 9, 2) := by decide +kernel
theorem dX2_add_238 : decode cX2_add 238 = .ok (.ireturn, 1) := by decide +kernel
set_option maxRecDepth 20000 in
theorem ggX2_month_X2_left : GoodIn wsX2_month wsX2_left := goodIn_r _ [14, 15, 2, 21, 22, 23, 24, 25, 26, 27, 28, 29, 30, 31, 32, 33] (by decide +kernel) (by decide +kernel)
set_option maxRecDepth 20000 in
theorem gX2_month_X2_left : GoodIn wsX2_month (wsV RX2 67 RX2 yX2_left wsX2_left) := goodIn_app (goodIn_of _ (by decide +kernel)) ggX2_month_X2_left
set_option maxRecDepth 20000 in
theorem ggX2_month_X2_worth : GoodIn wsX2_month wsX2_worth := goodIn_r _ [19, 20, 15, 1, 21, 22, 23, 24, 25, 26, 27, 28, 29, 30, 31, 32, 33] (by decide +kernel) (by decide +kernel)
set_option maxRecDepth 20000 in
theorem gX2_month_X2_worth : GoodIn wsX2_month (wsV RX2 56 RX2 yX2_worth wsX2_worth) := goodIn_app (goodIn_of _ (by decide +kernel)) ggX2_month_X2_worth
theorem dX2_month_0 : decode cX2_month 0 = .ok (.aload_n 0, 1) := by decide +kernel
theorem dX2_month_1 : decode cX2_month 1 = .ok (.getfield 7, 3) := by decide +kernel
theorem dX2_month_4 : decode cX2_month 4 = .ok (.bipush 120, 2) := by decide +kernel
theorem dX2_month_6 : decode cX2_month 6 = .ok (.iload_n 1, 1) := by decide +kernel
theorem dX2_month_7 : decode cX2_month 7 = .ok (.imul, 1) := by decide +kernel
theorem dX2_month_8 : decode cX2_month 8 = .ok (.aload_n 0, 1) := by decide +kernel
theorem dX2_month_9 : decode cX2_month 9 = .ok (.getfield 16, 3) := by decide +kernel
theorem dX2_month_12 : decode cX2_month 12 = .ok (.iload_n 1, 1) := by decide +kernel
theorem dX2_month_13 : decode cX2_month 13 = .ok (.iaload, 1) := by decide +kernel
theorem dX2_month_14 : decode cX2_month 14 = .ok (.iadd, 1) := by decide +kernel
theorem dX2_month_15 : decode cX2_month 15 = .ok (.iaload, 1) := by decide +kernel
theorem dX2_month_16 : decode cX2_month 16 = .ok (.istore_n 2, 1) := by decide +kernel
theorem dX2_month_17 : decode cX2_month 17 = .ok (.aload_n 0, 1) := by decide +kernel
theorem dX2_month_18 : decode cX2_month 18 = .ok (.iload_n 1, 1) := by decide +kernel
theorem dX2_month_19 : decode cX2_month 19 = .ok (.invokevirtual 67, 3) := by decide +kernel
theorem dX2_month_22 : decode cX2_month 22 = .ok (.istore_n 3, 1) := by decide +kernel
theorem dX2_month_23 : decode cX2_month 23 = .ok (.aload_n 0, 1) := by decide +kernel
theorem dX2_month_24 : decode cX2_month 24 = .ok (.getfield 22, 3) := by decide +kernel
theorem dX2_month_27 : decode cX2_month 27 = .ok (.iload_n 1, 1) := by decide +kernel
theorem dX2_month_28 : decode cX2_month 28 = .ok (.iaload, 1) := by decide +kernel
theorem dX2_month_29 : decode cX2_month 29 = .ok (.aload_n 0, 1) := by decide +kernel
theorem dX2_month_30 : decode cX2_month 30 = .ok (.getfield 16, 3) := by decide +kernel
theorem dX2_month_33 : decode cX2_month 33 = .ok (.iload_n 1, 1) := by decide +kernel
theorem dX2_month_34 : decode cX2_month 34 = .ok (.iaload, 1) := by decide +kernel
theorem dX2_month_35 : decode cX2_month 35 = .ok (.isub, 1) := by decide +kernel
theorem dX2_month_36 : decode cX2_month 36 = .ok (.istore 4, 2) := by decide +kernel
theorem dX2_month_38 : decode cX2_month 38 = .ok (.iload_n 3, 1) := by decide +kernel
theorem dX2_month_39 : decode cX2_month 39 = .ok (.iload 4, 2) := by decide +kernel
theorem dX2_month_41 : decode cX2_month 41 = .ok (.if_icmp .ge 7, 3) := by decide +kernel
theorem dX2_month_44 : decode cX2_month 44 = .ok (.iload_n 3, 1) := by decide +kernel
theorem dX2_month_45 : decode cX2_month 45 = .ok (.goto 5, 3) := by decide +kernel
theorem dX2_month_48 : decode cX2_month 48 = .ok (.iload 4, 2) := by decide +kernel
theorem dX2_month_50 : decode cX2_month 50 = .ok (.istore 5, 2) := by decide +kernel
theorem dX2_month_52 : decode cX2_month 52 = .ok (.iload 5, 2) := by decide +kernel
theorem dX2_month_54 : decode cX2_month 54 = .ok (.iconst 1, 1) := by decide +kernel
theorem dX2_month_55 : decode cX2_month 55 = .ok (.if_icmp .ge 12, 3) := by decide +kernel
theorem dX2_month_58 : decode cX2_month 58 = .ok (.aload_n 0, 1) := by decide +kernel
theorem dX2_month_59 : decode cX2_month 59 = .ok (.getfield 28, 3) := by decide +kernel
theorem dX2_month_62 : decode cX2_month 62 = .ok (.iload_n 1, 1) := by decide +kernel
theorem dX2_month_63 : decode cX2_month 63 = .ok (.iaload, 1) := by decide +kernel
theorem dX2_month_64 : decode cX2_month 64 = .ok (.goto 12, 3) := by decide +kernel
theorem dX2_month_67 : decode cX2_month 67 = .ok (.aload_n 0, 1) := by decide +kernel
theorem dX2_month_68 : decode cX2_month 68 = .ok (.getfield 28, 3) := by decide +kernel
theorem dX2_month_71 : decode cX2_month 71 = .ok (.iload_n 1, 1) := by decide +kernel
theorem dX2_month_72 : decode cX2_month 72 = .ok (.iaload, 1) := by decide +kernel
theorem dX2_month_73 : decode cX2_month 73 = .ok (.iload 5, 2) := by decide +kernel
theorem dX2_month_75 : decode cX2_month 75 = .ok (.idiv, 1) := by decide +kernel
theorem dX2_month_76 : decode cX2_month 76 = .ok (.istore 6, 2) := by decide +kernel
theorem dX2_month_78 : decode cX2_month 78 = .ok (.aload_n 0, 1) := by decide +kernel
theorem dX2_month_79 : decode cX2_month 79 = .ok (.iload_n 1, 1) := by decide +kernel
theorem dX2_month_80 : decode cX2_month 80 = .ok (.aload_n 0, 1) := by decide +kernel
theorem dX2_month_81 : decode cX2_month 81 = .ok (.getfield 16, 3) := by decide +kernel
theorem dX2_month_84 : decode cX2_month 84 = .ok (.iload_n 1, 1) := by decide +kernel
theorem dX2_month_85 : decode cX2_month 85 = .ok (.iaload, 1) := by decide +kernel
theorem dX2_month_86 : decode cX2_month 86 = .ok (.iconst 1, 1) := by decide +kernel
theorem dX2_month_87 : decode cX2_month 87 = .ok (.iadd, 1) := by decide +kernel
theorem dX2_month_88 : decode cX2_month 88 = .ok (.aload_n 0, 1) := by decide +kernel
theorem dX2_month_89 : decode cX2_month 89 = .ok (.getfield 19, 3) := by decide +kernel
theorem dX2_month_92 : decode cX2_month 92 = .ok (.iload_n 1, 1) := by decide +kernel
theorem dX2_month_93 : decode cX2_month 93 = .ok (.iaload, 1) := by decide +kernel
theorem dX2_month_94 : decode cX2_month 94 = .ok (.invokevirtual 56, 3) := by decide +kernel
theorem dX2_month_97 : decode cX2_month 97 = .ok (.istore 7, 2) := by decide +kernel
theorem dX2_month_99 : decode cX2_month 99 = .ok (.aload_n 0, 1) := by decide +kernel
theorem dX2_month_100 : decode cX2_month 100 = .ok (.getfield 31, 3) := by decide +kernel
theorem dX2_month_103 : decode cX2_month 103 = .ok (.iload_n 1, 1) := by decide +kernel
theorem dX2_month_104 : decode cX2_month 104 = .ok (.dup2, 1) := by decide +kernel
theorem dX2_month_105 : decode cX2_month 105 = .ok (.iaload, 1) := by decide +kernel
theorem dX2_month_106 : decode cX2_month 106 = .ok (.iload 7, 2) := by decide +kernel
theorem dX2_month_108 : decode cX2_month 108 = .ok (.iload_n 2, 1) := by decide +kernel
theorem dX2_month_109 : decode cX2_month 109 = .ok (.iadd, 1) := by decide +kernel
theorem dX2_month_110 : decode cX2_month 110 = .ok (.aload_n 0, 1) := by decide +kernel
theorem dX2_month_111 : decode cX2_month 111 = .ok (.getfield 25, 3) := by decide +kernel
theorem dX2_month_114 : decode cX2_month 114 = .ok (.iload_n 1, 1) := by decide +kernel
theorem dX2_month_115 : decode cX2_month 115 = .ok (.iaload, 1) := by decide +kernel
theorem dX2_month_116 : decode cX2_month 116 = .ok (.isub, 1) := by decide +kernel
theorem dX2_month_117 : decode cX2_month 117 = .ok (.iadd, 1) := by decide +kernel
theorem dX2_month_118 : decode cX2_month 118 = .ok (.iastore, 1) := by decide +kernel
theorem dX2_month_119 : decode cX2_month 119 = .ok (.aload_n 0, 1) := by decide +kernel
theorem dX2_month_120 : decode cX2_month 120 = .ok (.getfield 37, 3) := by decide +kernel
theorem dX2_month_123 : decode cX2_month 123 = .ok (.iload_n 1, 1) := by decide +kernel
theorem dX2_month_124 : decode cX2_month 124 = .ok (.dup2, 1) := by decide +kernel
theorem dX2_month_125 : decode cX2_month 125 = .ok (.iaload, 1) := by decide +kernel
theorem dX2_month_126 : decode cX2_month 126 = .ok (.iload_n 2, 1) := by decide +kernel
theorem dX2_month_127 : decode cX2_month 127 = .ok (.iadd, 1) := by decide +kernel
theorem dX2_month_128 : decode cX2_month 128 = .ok (.iastore, 1) := by decide +kernel
theorem dX2_month_129 : decode cX2_month 129 = .ok (.aload_n 0, 1) := by decide +kernel
theorem dX2_month_130 : decode cX2_month 130 = .ok (.getfield 28, 3) := by decide +kernel
theorem dX2_month_133 : decode cX2_month 133 = .ok (.iload_n 1, 1) := by decide +kernel
theorem dX2_month_134 : decode cX2_month 134 = .ok (.dup2, 1) := by decide +kernel
theorem dX2_month_135 : decode cX2_month 135 = .ok (.iaload, 1) := by decide +kernel
theorem dX2_month_136 : decode cX2_month 136 = .ok (.iload 6, 2) := by decide +kernel
theorem dX2_month_138 : decode cX2_month 138 = .ok (.isub, 1) := by decide +kernel
theorem dX2_month_139 : decode cX2_month 139 = .ok (.iastore, 1) := by decide +kernel
theorem dX2_month_140 : decode cX2_month 140 = .ok (.aload_n 0, 1) := by decide +kernel
theorem dX2_month_141 : decode cX2_month 141 = .ok (.getfield 34, 3) := by decide +kernel
theorem dX2_month_144 : decode cX2_month 144 = .ok (.iload_n 1, 1) := by decide +kernel
theorem dX2_month_145 : decode cX2_month 145 = .ok (.dup2, 1) := by decide +kernel
theorem dX2_month_146 : decode cX2_month 146 = .ok (.iaload, 1) := by decide +kernel
theorem dX2_month_147 : decode cX2_month 147 = .ok (.iload 6, 2) := by decide +kernel
theorem dX2_month_149 : decode cX2_month 149 = .ok (.iadd, 1) := by decide +kernel
theorem dX2_month_150 : decode cX2_month 150 = .ok (.iastore, 1) := by decide +kernel
theorem dX2_month_151 : decode cX2_month 151 = .ok (.aload_n 0, 1) := by decide +kernel
theorem dX2_month_152 : decode cX2_month 152 = .ok (.getfield 25, 3) := by decide +kernel
theorem dX2_month_155 : decode cX2_month 155 = .ok (.iload_n 1, 1) := by decide +kernel
theorem dX2_month_156 : decode cX2_month 156 = .ok (.iload 7, 2) := by decide +kernel
theorem dX2_month_158 : decode cX2_month 158 = .ok (.iastore, 1) := by decide +kernel
theorem dX2_month_159 : decode cX2_month 159 = .ok (.aload_n 0, 1) := by decide +kernel
theorem dX2_month_160 : decode cX2_month 160 = .ok (.getfield 16, 3) := by decide +kernel
theorem dX2_month_163 : decode cX2_month 163 = .ok (.iload_n 1, 1) := by decide +kernel
theorem dX2_month_164 : decode cX2_month 164 = .ok (.dup2, 1) := by decide +kernel
theorem dX2_month_165 : decode cX2_month 165 = .ok (.iaload, 1) := by decide +kernel
theorem dX2_month_166 : decode cX2_month 166 = .ok (.iconst 1, 1) := by decide +kernel
theorem dX2_month_167 : decode cX2_month 167 = .ok (.iadd, 1) := by decide +kernel
theorem dX2_month_168 : decode cX2_month 168 = .ok (.iastore, 1) := by decide +kernel
theorem dX2_month_169 : decode cX2_month 169 = .ok (.return_, 1) := by decide +kernel
set_option maxRecDepth 20000 in
theorem ggX2_pass_X2_in : GoodIn wsX2_pass wsX2_in := goodIn_r _ [6] (by decide +kernel) (by decide +kernel)
set_option maxRecDepth 20000 in
theorem gX2_pass_X2_in : GoodIn wsX2_pass (va_wsS RX2 50 yX2_in wsX2_in) := goodIn_app (goodIn_of _ (by decide +kernel)) ggX2_pass_X2_in
set_option maxRecDepth 20000 in
theorem ggX2_pass_X2_fails : GoodIn wsX2_pass wsX2_fails := goodIn_r _ [10, 1, 34, 35, 36, 37, 38, 39, 40, 41, 42, 43, 44, 45, 46] (by decide +kernel) (by decide +kernel)
set_option maxRecDepth 20000 in
theorem gX2_pass_X2_fails : GoodIn wsX2_pass (wsV RX2 60 RX2 yX2_fails wsX2_fails) := goodIn_app (goodIn_of _ (by decide +kernel)) ggX2_pass_X2_fails
set_option maxRecDepth 20000 in
theorem ggX2_pass_X2_left : GoodIn wsX2_pass wsX2_left := goodIn_r _ [14, 15, 16, 34, 35, 36, 37, 38, 39, 40, 41, 42, 43, 44, 45, 46] (by decide +kernel) (by decide +kernel)
set_option maxRecDepth 20000 in
theorem gX2_pass_X2_left : GoodIn wsX2_pass (wsV RX2 67 RX2 yX2_left wsX2_left) := goodIn_app (goodIn_of _ (by decide +kernel)) ggX2_pass_X2_left
set_option maxRecDepth 20000 in
theorem ggX2_pass_X2_month : GoodIn wsX2_pass wsX2_month := goodIn_r _ [20, 21, 16, 22, 23, 24, 25, 26, 27, 28, 11, 12, 13, 5, 14, 15, 29, 30, 31, 32, 33, 34, 35, 36, 37, 38, 39, 40, 41, 42, 43, 44, 45, 46] (by decide +kernel) (by decide +kernel)
set_option maxRecDepth 20000 in
theorem gX2_pass_X2_month : GoodIn wsX2_pass (wsV RX2 70 RX2 yX2_month wsX2_month) := goodIn_app (goodIn_of _ (by decide +kernel)) ggX2_pass_X2_month
theorem dX2_pass_0 : decode cX2_pass 0 = .ok (.aload_n 0, 1) := by decide +kernel
theorem dX2_pass_1 : decode cX2_pass 1 = .ok (.iconst 0, 1) := by decide +kernel
theorem dX2_pass_2 : decode cX2_pass 2 = .ok (.putfield 43, 3) := by decide +kernel
theorem dX2_pass_5 : decode cX2_pass 5 = .ok (.iload_n 1, 1) := by decide +kernel
theorem dX2_pass_6 : decode cX2_pass 6 = .ok (.iconst 1, 1) := by decide +kernel
theorem dX2_pass_7 : decode cX2_pass 7 = .ok (.bipush 24, 2) := by decide +kernel
theorem dX2_pass_9 : decode cX2_pass 9 = .ok (.invokestatic 50, 3) := by decide +kernel
theorem dX2_pass_12 : decode cX2_pass 12 = .ok (.ifCond .ne 9, 3) := by decide +kernel
theorem dX2_pass_15 : decode cX2_pass 15 = .ok (.aload_n 0, 1) := by decide +kernel
theorem dX2_pass_16 : decode cX2_pass 16 = .ok (.iconst 1, 1) := by decide +kernel
theorem dX2_pass_17 : decode cX2_pass 17 = .ok (.invokevirtual 60, 3) := by decide +kernel
theorem dX2_pass_20 : decode cX2_pass 20 = .ok (.ireturn, 1) := by decide +kernel
theorem dX2_pass_21 : decode cX2_pass 21 = .ok (.iconst 0, 1) := by decide +kernel
theorem dX2_pass_22 : decode cX2_pass 22 = .ok (.istore_n 2, 1) := by decide +kernel
theorem dX2_pass_23 : decode cX2_pass 23 = .ok (.iconst 0, 1) := by decide +kernel
theorem dX2_pass_24 : decode cX2_pass 24 = .ok (.istore_n 3, 1) := by decide +kernel
theorem dX2_pass_25 : decode cX2_pass 25 = .ok (.iload_n 3, 1) := by decide +kernel
theorem dX2_pass_26 : decode cX2_pass 26 = .ok (.aload_n 0, 1) := by decide +kernel
theorem dX2_pass_27 : decode cX2_pass 27 = .ok (.getfield 47, 3) := by decide +kernel
theorem dX2_pass_30 : decode cX2_pass 30 = .ok (.if_icmp .ge 65, 3) := by decide +kernel
theorem dX2_pass_33 : decode cX2_pass 33 = .ok (.aload_n 0, 1) := by decide +kernel
theorem dX2_pass_34 : decode cX2_pass 34 = .ok (.iload_n 3, 1) := by decide +kernel
theorem dX2_pass_35 : decode cX2_pass 35 = .ok (.invokevirtual 67, 3) := by decide +kernel
theorem dX2_pass_38 : decode cX2_pass 38 = .ok (.istore 4, 2) := by decide +kernel
theorem dX2_pass_40 : decode cX2_pass 40 = .ok (.iconst 0, 1) := by decide +kernel
theorem dX2_pass_41 : decode cX2_pass 41 = .ok (.istore 5, 2) := by decide +kernel
theorem dX2_pass_43 : decode cX2_pass 43 = .ok (.iload 5, 2) := by decide +kernel
theorem dX2_pass_45 : decode cX2_pass 45 = .ok (.iload_n 1, 1) := by decide +kernel
theorem dX2_pass_46 : decode cX2_pass 46 = .ok (.if_icmp .ge 22, 3) := by decide +kernel
theorem dX2_pass_49 : decode cX2_pass 49 = .ok (.aload_n 0, 1) := by decide +kernel
theorem dX2_pass_50 : decode cX2_pass 50 = .ok (.iload_n 3, 1) := by decide +kernel
theorem dX2_pass_51 : decode cX2_pass 51 = .ok (.invokevirtual 67, 3) := by decide +kernel
theorem dX2_pass_54 : decode cX2_pass 54 = .ok (.ifCond .le 14, 3) := by decide +kernel
theorem dX2_pass_57 : decode cX2_pass 57 = .ok (.aload_n 0, 1) := by decide +kernel
theorem dX2_pass_58 : decode cX2_pass 58 = .ok (.iload_n 3, 1) := by decide +kernel
theorem dX2_pass_59 : decode cX2_pass 59 = .ok (.invokevirtual 70, 3) := by decide +kernel
theorem dX2_pass_62 : decode cX2_pass 62 = .ok (.iinc 5 1, 3) := by decide +kernel
theorem dX2_pass_65 : decode cX2_pass 65 = .ok (.goto (-22), 3) := by decide +kernel
theorem dX2_pass_68 : decode cX2_pass 68 = .ok (.iload_n 2, 1) := by decide +kernel
theorem dX2_pass_69 : decode cX2_pass 69 = .ok (.iload 4, 2) := by decide +kernel
theorem dX2_pass_71 : decode cX2_pass 71 = .ok (.ifCond .le 15, 3) := by decide +kernel
theorem dX2_pass_74 : decode cX2_pass 74 = .ok (.aload_n 0, 1) := by decide +kernel
theorem dX2_pass_75 : decode cX2_pass 75 = .ok (.iload_n 3, 1) := by decide +kernel
theorem dX2_pass_76 : decode cX2_pass 76 = .ok (.invokevirtual 67, 3) := by decide +kernel
theorem dX2_pass_79 : decode cX2_pass 79 = .ok (.ifCond .ne 7, 3) := by decide +kernel
theorem dX2_pass_82 : decode cX2_pass 82 = .ok (.iconst 1, 1) := by decide +kernel
theorem dX2_pass_83 : decode cX2_pass 83 = .ok (.goto 4, 3) := by decide +kernel
theorem dX2_pass_86 : decode cX2_pass 86 = .ok (.iconst 0, 1) := by decide +kernel
theorem dX2_pass_87 : decode cX2_pass 87 = .ok (.iadd, 1) := by decide +kernel
theorem dX2_pass_88 : decode cX2_pass 88 = .ok (.istore_n 2, 1) := by decide +kernel
theorem dX2_pass_89 : decode cX2_pass 89 = .ok (.iinc 3 1, 3) := by decide +kernel
theorem dX2_pass_92 : decode cX2_pass 92 = .ok (.goto (-67), 3) := by decide +kernel
theorem dX2_pass_95 : decode cX2_pass 95 = .ok (.iload_n 2, 1) := by decide +kernel
theorem dX2_pass_96 : decode cX2_pass 96 = .ok (.ireturn, 1) := by decide +kernel
set_option maxRecDepth 20000 in
theorem ggX2_laidAgain_X2_worthNow : GoodIn wsX2_laidAgain wsX2_worthNow := goodIn_r _ [8, 9, 10, 11, 12, 13, 7, 14, 15, 16, 17, 18, 19, 20, 21, 22, 23, 24, 25, 26, 27, 28, 29, 30] (by decide +kernel) (by decide +kernel)
set_option maxRecDepth 20000 in
theorem gX2_laidAgain_X2_worthNow : GoodIn wsX2_laidAgain (wsV RX2 64 RX2 yX2_worthNow wsX2_worthNow) := goodIn_app (goodIn_of _ (by decide +kernel)) ggX2_laidAgain_X2_worthNow
theorem dX2_laidAgain_0 : decode cX2_laidAgain 0 = .ok (.aload_n 0, 1) := by decide +kernel
theorem dX2_laidAgain_1 : decode cX2_laidAgain 1 = .ok (.iload_n 1, 1) := by decide +kernel
theorem dX2_laidAgain_2 : decode cX2_laidAgain 2 = .ok (.invokevirtual 64, 3) := by decide +kernel
theorem dX2_laidAgain_5 : decode cX2_laidAgain 5 = .ok (.istore_n 2, 1) := by decide +kernel
theorem dX2_laidAgain_6 : decode cX2_laidAgain 6 = .ok (.aload_n 0, 1) := by decide +kernel
theorem dX2_laidAgain_7 : decode cX2_laidAgain 7 = .ok (.getfield 28, 3) := by decide +kernel
theorem dX2_laidAgain_10 : decode cX2_laidAgain 10 = .ok (.iload_n 1, 1) := by decide +kernel
theorem dX2_laidAgain_11 : decode cX2_laidAgain 11 = .ok (.dup2, 1) := by decide +kernel
theorem dX2_laidAgain_12 : decode cX2_laidAgain 12 = .ok (.iaload, 1) := by decide +kernel
theorem dX2_laidAgain_13 : decode cX2_laidAgain 13 = .ok (.iload_n 2, 1) := by decide +kernel
theorem dX2_laidAgain_14 : decode cX2_laidAgain 14 = .ok (.aload_n 0, 1) := by decide +kernel
theorem dX2_laidAgain_15 : decode cX2_laidAgain 15 = .ok (.getfield 25, 3) := by decide +kernel
theorem dX2_laidAgain_18 : decode cX2_laidAgain 18 = .ok (.iload_n 1, 1) := by decide +kernel
theorem dX2_laidAgain_19 : decode cX2_laidAgain 19 = .ok (.iaload, 1) := by decide +kernel
theorem dX2_laidAgain_20 : decode cX2_laidAgain 20 = .ok (.isub, 1) := by decide +kernel
theorem dX2_laidAgain_21 : decode cX2_laidAgain 21 = .ok (.iadd, 1) := by decide +kernel
theorem dX2_laidAgain_22 : decode cX2_laidAgain 22 = .ok (.iastore, 1) := by decide +kernel
theorem dX2_laidAgain_23 : decode cX2_laidAgain 23 = .ok (.aload_n 0, 1) := by decide +kernel
theorem dX2_laidAgain_24 : decode cX2_laidAgain 24 = .ok (.getfield 25, 3) := by decide +kernel
theorem dX2_laidAgain_27 : decode cX2_laidAgain 27 = .ok (.iload_n 1, 1) := by decide +kernel
theorem dX2_laidAgain_28 : decode cX2_laidAgain 28 = .ok (.iload_n 2, 1) := by decide +kernel
theorem dX2_laidAgain_29 : decode cX2_laidAgain 29 = .ok (.iastore, 1) := by decide +kernel
theorem dX2_laidAgain_30 : decode cX2_laidAgain 30 = .ok (.aload_n 0, 1) := by decide +kernel
theorem dX2_laidAgain_31 : decode cX2_laidAgain 31 = .ok (.getfield 28, 3) := by decide +kernel
theorem dX2_laidAgain_34 : decode cX2_laidAgain 34 = .ok (.iload_n 1, 1) := by decide +kernel
theorem dX2_laidAgain_35 : decode cX2_laidAgain 35 = .ok (.iaload, 1) := by decide +kernel
theorem dX2_laidAgain_36 : decode cX2_laidAgain 36 = .ok (.ifCond .ge 25, 3) := by decide +kernel
theorem dX2_laidAgain_39 : decode cX2_laidAgain 39 = .ok (.aload_n 0, 1) := by decide +kernel
theorem dX2_laidAgain_40 : decode cX2_laidAgain 40 = .ok (.getfield 40, 3) := by decide +kernel
theorem dX2_laidAgain_43 : decode cX2_laidAgain 43 = .ok (.iload_n 1, 1) := by decide +kernel
theorem dX2_laidAgain_44 : decode cX2_laidAgain 44 = .ok (.dup2, 1) := by decide +kernel
theorem dX2_laidAgain_45 : decode cX2_laidAgain 45 = .ok (.iaload, 1) := by decide +kernel
theorem dX2_laidAgain_46 : decode cX2_laidAgain 46 = .ok (.aload_n 0, 1) := by decide +kernel
theorem dX2_laidAgain_47 : decode cX2_laidAgain 47 = .ok (.getfield 28, 3) := by decide +kernel
theorem dX2_laidAgain_50 : decode cX2_laidAgain 50 = .ok (.iload_n 1, 1) := by decide +kernel
theorem dX2_laidAgain_51 : decode cX2_laidAgain 51 = .ok (.iaload, 1) := by decide +kernel
theorem dX2_laidAgain_52 : decode cX2_laidAgain 52 = .ok (.isub, 1) := by decide +kernel
theorem dX2_laidAgain_53 : decode cX2_laidAgain 53 = .ok (.iastore, 1) := by decide +kernel
theorem dX2_laidAgain_54 : decode cX2_laidAgain 54 = .ok (.aload_n 0, 1) := by decide +kernel
theorem dX2_laidAgain_55 : decode cX2_laidAgain 55 = .ok (.getfield 28, 3) := by decide +kernel
theorem dX2_laidAgain_58 : decode cX2_laidAgain 58 = .ok (.iload_n 1, 1) := by decide +kernel
theorem dX2_laidAgain_59 : decode cX2_laidAgain 59 = .ok (.iconst 0, 1) := by decide +kernel
theorem dX2_laidAgain_60 : decode cX2_laidAgain 60 = .ok (.iastore, 1) := by decide +kernel
theorem dX2_laidAgain_61 : decode cX2_laidAgain 61 = .ok (.iload_n 2, 1) := by decide +kernel
theorem dX2_laidAgain_62 : decode cX2_laidAgain 62 = .ok (.ireturn, 1) := by decide +kernel
set_option maxRecDepth 20000 in
theorem ggX2_review_X2_isNoLease : GoodIn wsX2_review wsX2_isNoLease := goodIn_r _ [11, 12, 13, 14, 10, 15, 40, 41, 42, 43, 44, 45, 46, 47, 48, 49, 50, 51, 52] (by decide +kernel) (by decide +kernel)
set_option maxRecDepth 20000 in
theorem gX2_review_X2_isNoLease : GoodIn wsX2_review (wsV RX2 74 RX2 yX2_isNoLease wsX2_isNoLease) := goodIn_app (goodIn_of _ (by decide +kernel)) ggX2_review_X2_isNoLease
set_option maxRecDepth 20000 in
theorem ggX2_review_X2_fails : GoodIn wsX2_review wsX2_fails := goodIn_r _ [19, 1, 40, 41, 42, 43, 44, 45, 46, 47, 48, 49, 50, 51, 52] (by decide +kernel) (by decide +kernel)
set_option maxRecDepth 20000 in
theorem gX2_review_X2_fails : GoodIn wsX2_review (wsV RX2 60 RX2 yX2_fails wsX2_fails) := goodIn_app (goodIn_of _ (by decide +kernel)) ggX2_review_X2_fails
set_option maxRecDepth 20000 in
theorem ggX2_review_X2_in : GoodIn wsX2_review wsX2_in := goodIn_r _ [15] (by decide +kernel) (by decide +kernel)
set_option maxRecDepth 20000 in
theorem gX2_review_X2_in : GoodIn wsX2_review (va_wsS RX2 50 yX2_in wsX2_in) := goodIn_app (goodIn_of _ (by decide +kernel)) ggX2_review_X2_in
set_option maxRecDepth 20000 in
theorem ggX2_review_X2_left : GoodIn wsX2_review wsX2_left := goodIn_r _ [23, 3, 2, 40, 41, 42, 43, 44, 45, 46, 47, 48, 49, 50, 51, 52] (by decide +kernel) (by decide +kernel)
set_option maxRecDepth 20000 in
theorem gX2_review_X2_left : GoodIn wsX2_review (wsV RX2 67 RX2 yX2_left wsX2_left) := goodIn_app (goodIn_of _ (by decide +kernel)) ggX2_review_X2_left
set_option maxRecDepth 20000 in
theorem ggX2_review_X2_laidAgain : GoodIn wsX2_review wsX2_laidAgain := goodIn_r _ [27, 28, 29, 30, 31, 32, 33, 10, 34, 2, 35, 36, 37, 38, 39, 6, 3, 4, 40, 41, 42, 43, 44, 45, 46, 47, 48, 49, 50, 51, 52] (by decide +kernel) (by decide +kernel)
set_option maxRecDepth 20000 in
theorem gX2_review_X2_laidAgain : GoodIn wsX2_review (wsV RX2 80 RX2 yX2_laidAgain wsX2_laidAgain) := goodIn_app (goodIn_of _ (by decide +kernel)) ggX2_review_X2_laidAgain
theorem dX2_review_0 : decode cX2_review 0 = .ok (.aload_n 0, 1) := by decide +kernel
theorem dX2_review_1 : decode cX2_review 1 = .ok (.iconst 0, 1) := by decide +kernel
theorem dX2_review_2 : decode cX2_review 2 = .ok (.putfield 43, 3) := by decide +kernel
theorem dX2_review_5 : decode cX2_review 5 = .ok (.aload_n 0, 1) := by decide +kernel
theorem dX2_review_6 : decode cX2_review 6 = .ok (.iload_n 1, 1) := by decide +kernel
theorem dX2_review_7 : decode cX2_review 7 = .ok (.invokevirtual 74, 3) := by decide +kernel
theorem dX2_review_10 : decode cX2_review 10 = .ok (.ifCond .eq 9, 3) := by decide +kernel
theorem dX2_review_13 : decode cX2_review 13 = .ok (.aload_n 0, 1) := by decide +kernel
theorem dX2_review_14 : decode cX2_review 14 = .ok (.iconst 1, 1) := by decide +kernel
theorem dX2_review_15 : decode cX2_review 15 = .ok (.invokevirtual 60, 3) := by decide +kernel
theorem dX2_review_18 : decode cX2_review 18 = .ok (.ireturn, 1) := by decide +kernel
theorem dX2_review_19 : decode cX2_review 19 = .ok (.iload_n 2, 1) := by decide +kernel
theorem dX2_review_20 : decode cX2_review 20 = .ok (.bipush (-50), 2) := by decide +kernel
theorem dX2_review_22 : decode cX2_review 22 = .ok (.bipush 100, 2) := by decide +kernel
theorem dX2_review_24 : decode cX2_review 24 = .ok (.invokestatic 50, 3) := by decide +kernel
theorem dX2_review_27 : decode cX2_review 27 = .ok (.ifCond .ne 9, 3) := by decide +kernel
theorem dX2_review_30 : decode cX2_review 30 = .ok (.aload_n 0, 1) := by decide +kernel
theorem dX2_review_31 : decode cX2_review 31 = .ok (.iconst 2, 1) := by decide +kernel
theorem dX2_review_32 : decode cX2_review 32 = .ok (.invokevirtual 60, 3) := by decide +kernel
theorem dX2_review_35 : decode cX2_review 35 = .ok (.ireturn, 1) := by decide +kernel
theorem dX2_review_36 : decode cX2_review 36 = .ok (.aload_n 0, 1) := by decide +kernel
theorem dX2_review_37 : decode cX2_review 37 = .ok (.iload_n 1, 1) := by decide +kernel
theorem dX2_review_38 : decode cX2_review 38 = .ok (.invokevirtual 67, 3) := by decide +kernel
theorem dX2_review_41 : decode cX2_review 41 = .ok (.ifCond .ne 7, 3) := by decide +kernel
theorem dX2_review_44 : decode cX2_review 44 = .ok (.iconst 1, 1) := by decide +kernel
theorem dX2_review_45 : decode cX2_review 45 = .ok (.goto 4, 3) := by decide +kernel
theorem dX2_review_48 : decode cX2_review 48 = .ok (.iconst 0, 1) := by decide +kernel
theorem dX2_review_49 : decode cX2_review 49 = .ok (.istore_n 3, 1) := by decide +kernel
theorem dX2_review_50 : decode cX2_review 50 = .ok (.aload_n 0, 1) := by decide +kernel
theorem dX2_review_51 : decode cX2_review 51 = .ok (.getfield 16, 3) := by decide +kernel
theorem dX2_review_54 : decode cX2_review 54 = .ok (.iload_n 1, 1) := by decide +kernel
theorem dX2_review_55 : decode cX2_review 55 = .ok (.iaload, 1) := by decide +kernel
theorem dX2_review_56 : decode cX2_review 56 = .ok (.istore 4, 2) := by decide +kernel
theorem dX2_review_58 : decode cX2_review 58 = .ok (.iload 4, 2) := by decide +kernel
theorem dX2_review_60 : decode cX2_review 60 = .ok (.aload_n 0, 1) := by decide +kernel
theorem dX2_review_61 : decode cX2_review 61 = .ok (.getfield 13, 3) := by decide +kernel
theorem dX2_review_64 : decode cX2_review 64 = .ok (.iload_n 1, 1) := by decide +kernel
theorem dX2_review_65 : decode cX2_review 65 = .ok (.iaload, 1) := by decide +kernel
theorem dX2_review_66 : decode cX2_review 66 = .ok (.if_icmp .ge 47, 3) := by decide +kernel
theorem dX2_review_69 : decode cX2_review 69 = .ok (.iload_n 3, 1) := by decide +kernel
theorem dX2_review_70 : decode cX2_review 70 = .ok (.aload_n 0, 1) := by decide +kernel
theorem dX2_review_71 : decode cX2_review 71 = .ok (.getfield 7, 3) := by decide +kernel
theorem dX2_review_74 : decode cX2_review 74 = .ok (.bipush 120, 2) := by decide +kernel
theorem dX2_review_76 : decode cX2_review 76 = .ok (.iload_n 1, 1) := by decide +kernel
theorem dX2_review_77 : decode cX2_review 77 = .ok (.imul, 1) := by decide +kernel
theorem dX2_review_78 : decode cX2_review 78 = .ok (.iload 4, 2) := by decide +kernel
theorem dX2_review_80 : decode cX2_review 80 = .ok (.iadd, 1) := by decide +kernel
theorem dX2_review_81 : decode cX2_review 81 = .ok (.iaload, 1) := by decide +kernel
theorem dX2_review_82 : decode cX2_review 82 = .ok (.i2l, 1) := by decide +kernel
theorem dX2_review_83 : decode cX2_review 83 = .ok (.bipush 100, 2) := by decide +kernel
theorem dX2_review_85 : decode cX2_review 85 = .ok (.iload_n 2, 1) := by decide +kernel
theorem dX2_review_86 : decode cX2_review 86 = .ok (.iadd, 1) := by decide +kernel
theorem dX2_review_87 : decode cX2_review 87 = .ok (.i2l, 1) := by decide +kernel
theorem dX2_review_88 : decode cX2_review 88 = .ok (.lmul, 1) := by decide +kernel
theorem dX2_review_89 : decode cX2_review 89 = .ok (.ldc2_w 78, 3) := by decide +kernel
theorem dX2_review_92 : decode cX2_review 92 = .ok (.ldiv, 1) := by decide +kernel
theorem dX2_review_93 : decode cX2_review 93 = .ok (.ldc2_w 54, 3) := by decide +kernel
theorem dX2_review_96 : decode cX2_review 96 = .ok (.lcmp, 1) := by decide +kernel
theorem dX2_review_97 : decode cX2_review 97 = .ok (.ifCond .le 7, 3) := by decide +kernel
theorem dX2_review_100 : decode cX2_review 100 = .ok (.iconst 1, 1) := by decide +kernel
theorem dX2_review_101 : decode cX2_review 101 = .ok (.goto 4, 3) := by decide +kernel
theorem dX2_review_104 : decode cX2_review 104 = .ok (.iconst 0, 1) := by decide +kernel
theorem dX2_review_105 : decode cX2_review 105 = .ok (.ior, 1) := by decide +kernel
theorem dX2_review_106 : decode cX2_review 106 = .ok (.istore_n 3, 1) := by decide +kernel
theorem dX2_review_107 : decode cX2_review 107 = .ok (.iinc 4 1, 3) := by decide +kernel
theorem dX2_review_110 : decode cX2_review 110 = .ok (.goto (-52), 3) := by decide +kernel
theorem dX2_review_113 : decode cX2_review 113 = .ok (.iload_n 3, 1) := by decide +kernel
theorem dX2_review_114 : decode cX2_review 114 = .ok (.ifCond .eq 9, 3) := by decide +kernel
theorem dX2_review_117 : decode cX2_review 117 = .ok (.aload_n 0, 1) := by decide +kernel
theorem dX2_review_118 : decode cX2_review 118 = .ok (.iconst 3, 1) := by decide +kernel
theorem dX2_review_119 : decode cX2_review 119 = .ok (.invokevirtual 60, 3) := by decide +kernel
theorem dX2_review_122 : decode cX2_review 122 = .ok (.ireturn, 1) := by decide +kernel
theorem dX2_review_123 : decode cX2_review 123 = .ok (.aload_n 0, 1) := by decide +kernel
theorem dX2_review_124 : decode cX2_review 124 = .ok (.getfield 16, 3) := by decide +kernel
theorem dX2_review_127 : decode cX2_review 127 = .ok (.iload_n 1, 1) := by decide +kernel
theorem dX2_review_128 : decode cX2_review 128 = .ok (.iaload, 1) := by decide +kernel
theorem dX2_review_129 : decode cX2_review 129 = .ok (.istore 4, 2) := by decide +kernel
theorem dX2_review_131 : decode cX2_review 131 = .ok (.iload 4, 2) := by decide +kernel
theorem dX2_review_133 : decode cX2_review 133 = .ok (.aload_n 0, 1) := by decide +kernel
theorem dX2_review_134 : decode cX2_review 134 = .ok (.getfield 13, 3) := by decide +kernel
theorem dX2_review_137 : decode cX2_review 137 = .ok (.iload_n 1, 1) := by decide +kernel
theorem dX2_review_138 : decode cX2_review 138 = .ok (.iaload, 1) := by decide +kernel
theorem dX2_review_139 : decode cX2_review 139 = .ok (.if_icmp .ge 45, 3) := by decide +kernel
theorem dX2_review_142 : decode cX2_review 142 = .ok (.aload_n 0, 1) := by decide +kernel
theorem dX2_review_143 : decode cX2_review 143 = .ok (.getfield 7, 3) := by decide +kernel
theorem dX2_review_146 : decode cX2_review 146 = .ok (.bipush 120, 2) := by decide +kernel
theorem dX2_review_148 : decode cX2_review 148 = .ok (.iload_n 1, 1) := by decide +kernel
theorem dX2_review_149 : decode cX2_review 149 = .ok (.imul, 1) := by decide +kernel
theorem dX2_review_150 : decode cX2_review 150 = .ok (.iload 4, 2) := by decide +kernel
theorem dX2_review_152 : decode cX2_review 152 = .ok (.iadd, 1) := by decide +kernel
theorem dX2_review_153 : decode cX2_review 153 = .ok (.aload_n 0, 1) := by decide +kernel
theorem dX2_review_154 : decode cX2_review 154 = .ok (.getfield 7, 3) := by decide +kernel
theorem dX2_review_157 : decode cX2_review 157 = .ok (.bipush 120, 2) := by decide +kernel
theorem dX2_review_159 : decode cX2_review 159 = .ok (.iload_n 1, 1) := by decide +kernel
theorem dX2_review_160 : decode cX2_review 160 = .ok (.imul, 1) := by decide +kernel
theorem dX2_review_161 : decode cX2_review 161 = .ok (.iload 4, 2) := by decide +kernel
theorem dX2_review_163 : decode cX2_review 163 = .ok (.iadd, 1) := by decide +kernel
theorem dX2_review_164 : decode cX2_review 164 = .ok (.iaload, 1) := by decide +kernel
theorem dX2_review_165 : decode cX2_review 165 = .ok (.i2l, 1) := by decide +kernel
theorem dX2_review_166 : decode cX2_review 166 = .ok (.bipush 100, 2) := by decide +kernel
theorem dX2_review_168 : decode cX2_review 168 = .ok (.iload_n 2, 1) := by decide +kernel
theorem dX2_review_169 : decode cX2_review 169 = .ok (.iadd, 1) := by decide +kernel
theorem dX2_review_170 : decode cX2_review 170 = .ok (.i2l, 1) := by decide +kernel
theorem dX2_review_171 : decode cX2_review 171 = .ok (.lmul, 1) := by decide +kernel
theorem dX2_review_172 : decode cX2_review 172 = .ok (.ldc2_w 78, 3) := by decide +kernel
theorem dX2_review_175 : decode cX2_review 175 = .ok (.ldiv, 1) := by decide +kernel
theorem dX2_review_176 : decode cX2_review 176 = .ok (.l2i, 1) := by decide +kernel
theorem dX2_review_177 : decode cX2_review 177 = .ok (.iastore, 1) := by decide +kernel
theorem dX2_review_178 : decode cX2_review 178 = .ok (.iinc 4 1, 3) := by decide +kernel
theorem dX2_review_181 : decode cX2_review 181 = .ok (.goto (-50), 3) := by decide +kernel
theorem dX2_review_184 : decode cX2_review 184 = .ok (.aload_n 0, 1) := by decide +kernel
theorem dX2_review_185 : decode cX2_review 185 = .ok (.iload_n 1, 1) := by decide +kernel
theorem dX2_review_186 : decode cX2_review 186 = .ok (.invokevirtual 80, 3) := by decide +kernel
theorem dX2_review_189 : decode cX2_review 189 = .ok (.ireturn, 1) := by decide +kernel
set_option maxRecDepth 20000 in
theorem ggX2_lengthen_X2_isNoLease : GoodIn wsX2_lengthen wsX2_isNoLease := goodIn_r _ [8, 9, 10, 11, 7, 12, 39, 40, 41, 42, 43, 44, 45, 46, 47, 48, 49, 50, 51] (by decide +kernel) (by decide +kernel)
set_option maxRecDepth 20000 in
theorem gX2_lengthen_X2_isNoLease : GoodIn wsX2_lengthen (wsV RX2 74 RX2 yX2_isNoLease wsX2_isNoLease) := goodIn_app (goodIn_of _ (by decide +kernel)) ggX2_lengthen_X2_isNoLease
set_option maxRecDepth 20000 in
theorem ggX2_lengthen_X2_fails : GoodIn wsX2_lengthen wsX2_fails := goodIn_r _ [16, 1, 39, 40, 41, 42, 43, 44, 45, 46, 47, 48, 49, 50, 51] (by decide +kernel) (by decide +kernel)
set_option maxRecDepth 20000 in
theorem gX2_lengthen_X2_fails : GoodIn wsX2_lengthen (wsV RX2 60 RX2 yX2_fails wsX2_fails) := goodIn_app (goodIn_of _ (by decide +kernel)) ggX2_lengthen_X2_fails
set_option maxRecDepth 20000 in
theorem ggX2_lengthen_X2_in : GoodIn wsX2_lengthen wsX2_in := goodIn_r _ [12] (by decide +kernel) (by decide +kernel)
set_option maxRecDepth 20000 in
theorem gX2_lengthen_X2_in : GoodIn wsX2_lengthen (va_wsS RX2 50 yX2_in wsX2_in) := goodIn_app (goodIn_of _ (by decide +kernel)) ggX2_lengthen_X2_in
set_option maxRecDepth 20000 in
theorem ggX2_lengthen_X2_left : GoodIn wsX2_lengthen wsX2_left := goodIn_r _ [20, 2, 21, 39, 40, 41, 42, 43, 44, 45, 46, 47, 48, 49, 50, 51] (by decide +kernel) (by decide +kernel)
set_option maxRecDepth 20000 in
theorem gX2_lengthen_X2_left : GoodIn wsX2_lengthen (wsV RX2 67 RX2 yX2_left wsX2_left) := goodIn_app (goodIn_of _ (by decide +kernel)) ggX2_lengthen_X2_left
set_option maxRecDepth 20000 in
theorem ggX2_lengthen_X2_laidAgain : GoodIn wsX2_lengthen wsX2_laidAgain := goodIn_r _ [25, 26, 27, 28, 29, 30, 31, 7, 32, 21, 33, 34, 35, 36, 37, 38, 2, 3, 39, 40, 41, 42, 43, 44, 45, 46, 47, 48, 49, 50, 51] (by decide +kernel) (by decide +kernel)
set_option maxRecDepth 20000 in
theorem gX2_lengthen_X2_laidAgain : GoodIn wsX2_lengthen (wsV RX2 80 RX2 yX2_laidAgain wsX2_laidAgain) := goodIn_app (goodIn_of _ (by decide +kernel)) ggX2_lengthen_X2_laidAgain
theorem dX2_lengthen_0 : decode cX2_lengthen 0 = .ok (.aload_n 0, 1) := by decide +kernel
theorem dX2_lengthen_1 : decode cX2_lengthen 1 = .ok (.iconst 0, 1) := by decide +kernel
theorem dX2_lengthen_2 : decode cX2_lengthen 2 = .ok (.putfield 43, 3) := by decide +kernel
theorem dX2_lengthen_5 : decode cX2_lengthen 5 = .ok (.aload_n 0, 1) := by decide +kernel
theorem dX2_lengthen_6 : decode cX2_lengthen 6 = .ok (.iload_n 1, 1) := by decide +kernel
theorem dX2_lengthen_7 : decode cX2_lengthen 7 = .ok (.invokevirtual 74, 3) := by decide +kernel
theorem dX2_lengthen_10 : decode cX2_lengthen 10 = .ok (.ifCond .eq 9, 3) := by decide +kernel
theorem dX2_lengthen_13 : decode cX2_lengthen 13 = .ok (.aload_n 0, 1) := by decide +kernel
theorem dX2_lengthen_14 : decode cX2_lengthen 14 = .ok (.iconst 1, 1) := by decide +kernel
theorem dX2_lengthen_15 : decode cX2_lengthen 15 = .ok (.invokevirtual 60, 3) := by decide +kernel
theorem dX2_lengthen_18 : decode cX2_lengthen 18 = .ok (.ireturn, 1) := by decide +kernel
theorem dX2_lengthen_19 : decode cX2_lengthen 19 = .ok (.iload_n 2, 1) := by decide +kernel
theorem dX2_lengthen_20 : decode cX2_lengthen 20 = .ok (.iconst 1, 1) := by decide +kernel
theorem dX2_lengthen_21 : decode cX2_lengthen 21 = .ok (.bipush 36, 2) := by decide +kernel
theorem dX2_lengthen_23 : decode cX2_lengthen 23 = .ok (.invokestatic 50, 3) := by decide +kernel
theorem dX2_lengthen_26 : decode cX2_lengthen 26 = .ok (.ifCond .eq 14, 3) := by decide +kernel
theorem dX2_lengthen_29 : decode cX2_lengthen 29 = .ok (.iload_n 3, 1) := by decide +kernel
theorem dX2_lengthen_30 : decode cX2_lengthen 30 = .ok (.iconst 0, 1) := by decide +kernel
theorem dX2_lengthen_31 : decode cX2_lengthen 31 = .ok (.sipush 10000, 3) := by decide +kernel
theorem dX2_lengthen_34 : decode cX2_lengthen 34 = .ok (.invokestatic 50, 3) := by decide +kernel
theorem dX2_lengthen_37 : decode cX2_lengthen 37 = .ok (.ifCond .ne 9, 3) := by decide +kernel
theorem dX2_lengthen_40 : decode cX2_lengthen 40 = .ok (.aload_n 0, 1) := by decide +kernel
theorem dX2_lengthen_41 : decode cX2_lengthen 41 = .ok (.iconst 2, 1) := by decide +kernel
theorem dX2_lengthen_42 : decode cX2_lengthen 42 = .ok (.invokevirtual 60, 3) := by decide +kernel
theorem dX2_lengthen_45 : decode cX2_lengthen 45 = .ok (.ireturn, 1) := by decide +kernel
theorem dX2_lengthen_46 : decode cX2_lengthen 46 = .ok (.aload_n 0, 1) := by decide +kernel
theorem dX2_lengthen_47 : decode cX2_lengthen 47 = .ok (.iload_n 1, 1) := by decide +kernel
theorem dX2_lengthen_48 : decode cX2_lengthen 48 = .ok (.invokevirtual 67, 3) := by decide +kernel
theorem dX2_lengthen_51 : decode cX2_lengthen 51 = .ok (.ifCond .eq 16, 3) := by decide +kernel
theorem dX2_lengthen_54 : decode cX2_lengthen 54 = .ok (.aload_n 0, 1) := by decide +kernel
theorem dX2_lengthen_55 : decode cX2_lengthen 55 = .ok (.getfield 13, 3) := by decide +kernel
theorem dX2_lengthen_58 : decode cX2_lengthen 58 = .ok (.iload_n 1, 1) := by decide +kernel
theorem dX2_lengthen_59 : decode cX2_lengthen 59 = .ok (.iaload, 1) := by decide +kernel
theorem dX2_lengthen_60 : decode cX2_lengthen 60 = .ok (.iload_n 2, 1) := by decide +kernel
theorem dX2_lengthen_61 : decode cX2_lengthen 61 = .ok (.iadd, 1) := by decide +kernel
theorem dX2_lengthen_62 : decode cX2_lengthen 62 = .ok (.bipush 120, 2) := by decide +kernel
theorem dX2_lengthen_64 : decode cX2_lengthen 64 = .ok (.if_icmp .le 9, 3) := by decide +kernel
theorem dX2_lengthen_67 : decode cX2_lengthen 67 = .ok (.aload_n 0, 1) := by decide +kernel
theorem dX2_lengthen_68 : decode cX2_lengthen 68 = .ok (.iconst 3, 1) := by decide +kernel
theorem dX2_lengthen_69 : decode cX2_lengthen 69 = .ok (.invokevirtual 60, 3) := by decide +kernel
theorem dX2_lengthen_72 : decode cX2_lengthen 72 = .ok (.ireturn, 1) := by decide +kernel
theorem dX2_lengthen_73 : decode cX2_lengthen 73 = .ok (.iconst 0, 1) := by decide +kernel
theorem dX2_lengthen_74 : decode cX2_lengthen 74 = .ok (.istore 4, 2) := by decide +kernel
theorem dX2_lengthen_76 : decode cX2_lengthen 76 = .ok (.iload 4, 2) := by decide +kernel
theorem dX2_lengthen_78 : decode cX2_lengthen 78 = .ok (.iload_n 2, 1) := by decide +kernel
theorem dX2_lengthen_79 : decode cX2_lengthen 79 = .ok (.if_icmp .ge 29, 3) := by decide +kernel
theorem dX2_lengthen_82 : decode cX2_lengthen 82 = .ok (.aload_n 0, 1) := by decide +kernel
theorem dX2_lengthen_83 : decode cX2_lengthen 83 = .ok (.getfield 7, 3) := by decide +kernel
theorem dX2_lengthen_86 : decode cX2_lengthen 86 = .ok (.bipush 120, 2) := by decide +kernel
theorem dX2_lengthen_88 : decode cX2_lengthen 88 = .ok (.iload_n 1, 1) := by decide +kernel
theorem dX2_lengthen_89 : decode cX2_lengthen 89 = .ok (.imul, 1) := by decide +kernel
theorem dX2_lengthen_90 : decode cX2_lengthen 90 = .ok (.aload_n 0, 1) := by decide +kernel
theorem dX2_lengthen_91 : decode cX2_lengthen 91 = .ok (.getfield 13, 3) := by decide +kernel
theorem dX2_lengthen_94 : decode cX2_lengthen 94 = .ok (.iload_n 1, 1) := by decide +kernel
theorem dX2_lengthen_95 : decode cX2_lengthen 95 = .ok (.iaload, 1) := by decide +kernel
theorem dX2_lengthen_96 : decode cX2_lengthen 96 = .ok (.iadd, 1) := by decide +kernel
theorem dX2_lengthen_97 : decode cX2_lengthen 97 = .ok (.iload 4, 2) := by decide +kernel
theorem dX2_lengthen_99 : decode cX2_lengthen 99 = .ok (.iadd, 1) := by decide +kernel
theorem dX2_lengthen_100 : decode cX2_lengthen 100 = .ok (.iload_n 3, 1) := by decide +kernel
theorem dX2_lengthen_101 : decode cX2_lengthen 101 = .ok (.iastore, 1) := by decide +kernel
theorem dX2_lengthen_102 : decode cX2_lengthen 102 = .ok (.iinc 4 1, 3) := by decide +kernel
theorem dX2_lengthen_105 : decode cX2_lengthen 105 = .ok (.goto (-29), 3) := by decide +kernel
theorem dX2_lengthen_108 : decode cX2_lengthen 108 = .ok (.aload_n 0, 1) := by decide +kernel
theorem dX2_lengthen_109 : decode cX2_lengthen 109 = .ok (.getfield 13, 3) := by decide +kernel
theorem dX2_lengthen_112 : decode cX2_lengthen 112 = .ok (.iload_n 1, 1) := by decide +kernel
theorem dX2_lengthen_113 : decode cX2_lengthen 113 = .ok (.dup2, 1) := by decide +kernel
theorem dX2_lengthen_114 : decode cX2_lengthen 114 = .ok (.iaload, 1) := by decide +kernel
theorem dX2_lengthen_115 : decode cX2_lengthen 115 = .ok (.iload_n 2, 1) := by decide +kernel
theorem dX2_lengthen_116 : decode cX2_lengthen 116 = .ok (.iadd, 1) := by decide +kernel
theorem dX2_lengthen_117 : decode cX2_lengthen 117 = .ok (.iastore, 1) := by decide +kernel
theorem dX2_lengthen_118 : decode cX2_lengthen 118 = .ok (.aload_n 0, 1) := by decide +kernel
theorem dX2_lengthen_119 : decode cX2_lengthen 119 = .ok (.iload_n 1, 1) := by decide +kernel
theorem dX2_lengthen_120 : decode cX2_lengthen 120 = .ok (.invokevirtual 80, 3) := by decide +kernel
theorem dX2_lengthen_123 : decode cX2_lengthen 123 = .ok (.ireturn, 1) := by decide +kernel
set_option maxRecDepth 20000 in
theorem ggX2_givenUp_X2_worthNow : GoodIn wsX2_givenUp wsX2_worthNow := goodIn_r _ [8, 9, 10, 11, 12, 13, 7, 14, 15, 16, 17, 18, 19, 20, 21, 22, 23, 24, 25, 26, 27, 28, 29, 30] (by decide +kernel) (by decide +kernel)
set_option maxRecDepth 20000 in
theorem gX2_givenUp_X2_worthNow : GoodIn wsX2_givenUp (wsV RX2 64 RX2 yX2_worthNow wsX2_worthNow) := goodIn_app (goodIn_of _ (by decide +kernel)) ggX2_givenUp_X2_worthNow
theorem dX2_givenUp_0 : decode cX2_givenUp 0 = .ok (.aload_n 0, 1) := by decide +kernel
theorem dX2_givenUp_1 : decode cX2_givenUp 1 = .ok (.getfield 25, 3) := by decide +kernel
theorem dX2_givenUp_4 : decode cX2_givenUp 4 = .ok (.iload_n 1, 1) := by decide +kernel
theorem dX2_givenUp_5 : decode cX2_givenUp 5 = .ok (.iaload, 1) := by decide +kernel
theorem dX2_givenUp_6 : decode cX2_givenUp 6 = .ok (.aload_n 0, 1) := by decide +kernel
theorem dX2_givenUp_7 : decode cX2_givenUp 7 = .ok (.iload_n 1, 1) := by decide +kernel
theorem dX2_givenUp_8 : decode cX2_givenUp 8 = .ok (.invokevirtual 64, 3) := by decide +kernel
theorem dX2_givenUp_11 : decode cX2_givenUp 11 = .ok (.isub, 1) := by decide +kernel
theorem dX2_givenUp_12 : decode cX2_givenUp 12 = .ok (.istore_n 3, 1) := by decide +kernel
theorem dX2_givenUp_13 : decode cX2_givenUp 13 = .ok (.iload_n 3, 1) := by decide +kernel
theorem dX2_givenUp_14 : decode cX2_givenUp 14 = .ok (.aload_n 0, 1) := by decide +kernel
theorem dX2_givenUp_15 : decode cX2_givenUp 15 = .ok (.getfield 28, 3) := by decide +kernel
theorem dX2_givenUp_18 : decode cX2_givenUp 18 = .ok (.iload_n 1, 1) := by decide +kernel
theorem dX2_givenUp_19 : decode cX2_givenUp 19 = .ok (.iaload, 1) := by decide +kernel
theorem dX2_givenUp_20 : decode cX2_givenUp 20 = .ok (.iload_n 2, 1) := by decide +kernel
theorem dX2_givenUp_21 : decode cX2_givenUp 21 = .ok (.isub, 1) := by decide +kernel
theorem dX2_givenUp_22 : decode cX2_givenUp 22 = .ok (.isub, 1) := by decide +kernel
theorem dX2_givenUp_23 : decode cX2_givenUp 23 = .ok (.istore 4, 2) := by decide +kernel
theorem dX2_givenUp_25 : decode cX2_givenUp 25 = .ok (.aload_n 0, 1) := by decide +kernel
theorem dX2_givenUp_26 : decode cX2_givenUp 26 = .ok (.getfield 25, 3) := by decide +kernel
theorem dX2_givenUp_29 : decode cX2_givenUp 29 = .ok (.iload_n 1, 1) := by decide +kernel
theorem dX2_givenUp_30 : decode cX2_givenUp 30 = .ok (.dup2, 1) := by decide +kernel
theorem dX2_givenUp_31 : decode cX2_givenUp 31 = .ok (.iaload, 1) := by decide +kernel
theorem dX2_givenUp_32 : decode cX2_givenUp 32 = .ok (.iload_n 3, 1) := by decide +kernel
theorem dX2_givenUp_33 : decode cX2_givenUp 33 = .ok (.isub, 1) := by decide +kernel
theorem dX2_givenUp_34 : decode cX2_givenUp 34 = .ok (.iastore, 1) := by decide +kernel
theorem dX2_givenUp_35 : decode cX2_givenUp 35 = .ok (.aload_n 0, 1) := by decide +kernel
theorem dX2_givenUp_36 : decode cX2_givenUp 36 = .ok (.getfield 28, 3) := by decide +kernel
theorem dX2_givenUp_39 : decode cX2_givenUp 39 = .ok (.iload_n 1, 1) := by decide +kernel
theorem dX2_givenUp_40 : decode cX2_givenUp 40 = .ok (.iload_n 2, 1) := by decide +kernel
theorem dX2_givenUp_41 : decode cX2_givenUp 41 = .ok (.iastore, 1) := by decide +kernel
theorem dX2_givenUp_42 : decode cX2_givenUp 42 = .ok (.aload_n 0, 1) := by decide +kernel
theorem dX2_givenUp_43 : decode cX2_givenUp 43 = .ok (.getfield 40, 3) := by decide +kernel
theorem dX2_givenUp_46 : decode cX2_givenUp 46 = .ok (.iload_n 1, 1) := by decide +kernel
theorem dX2_givenUp_47 : decode cX2_givenUp 47 = .ok (.dup2, 1) := by decide +kernel
theorem dX2_givenUp_48 : decode cX2_givenUp 48 = .ok (.iaload, 1) := by decide +kernel
theorem dX2_givenUp_49 : decode cX2_givenUp 49 = .ok (.iload 4, 2) := by decide +kernel
theorem dX2_givenUp_51 : decode cX2_givenUp 51 = .ok (.iadd, 1) := by decide +kernel
theorem dX2_givenUp_52 : decode cX2_givenUp 52 = .ok (.iastore, 1) := by decide +kernel
theorem dX2_givenUp_53 : decode cX2_givenUp 53 = .ok (.iload 4, 2) := by decide +kernel
theorem dX2_givenUp_55 : decode cX2_givenUp 55 = .ok (.ireturn, 1) := by decide +kernel
set_option maxRecDepth 20000 in
theorem ggX2_shorten_X2_isNoLease : GoodIn wsX2_shorten wsX2_isNoLease := goodIn_r _ [8, 9, 10, 11, 7, 12, 39, 40, 41, 42, 43, 44, 45, 46, 47, 48, 49, 50, 51] (by decide +kernel) (by decide +kernel)
set_option maxRecDepth 20000 in
theorem gX2_shorten_X2_isNoLease : GoodIn wsX2_shorten (wsV RX2 74 RX2 yX2_isNoLease wsX2_isNoLease) := goodIn_app (goodIn_of _ (by decide +kernel)) ggX2_shorten_X2_isNoLease
set_option maxRecDepth 20000 in
theorem ggX2_shorten_X2_fails : GoodIn wsX2_shorten wsX2_fails := goodIn_r _ [16, 1, 39, 40, 41, 42, 43, 44, 45, 46, 47, 48, 49, 50, 51] (by decide +kernel) (by decide +kernel)
set_option maxRecDepth 20000 in
theorem gX2_shorten_X2_fails : GoodIn wsX2_shorten (wsV RX2 60 RX2 yX2_fails wsX2_fails) := goodIn_app (goodIn_of _ (by decide +kernel)) ggX2_shorten_X2_fails
set_option maxRecDepth 20000 in
theorem ggX2_shorten_X2_in : GoodIn wsX2_shorten wsX2_in := goodIn_r _ [12] (by decide +kernel) (by decide +kernel)
set_option maxRecDepth 20000 in
theorem gX2_shorten_X2_in : GoodIn wsX2_shorten (va_wsS RX2 50 yX2_in wsX2_in) := goodIn_app (goodIn_of _ (by decide +kernel)) ggX2_shorten_X2_in
set_option maxRecDepth 20000 in
theorem ggX2_shorten_X2_left : GoodIn wsX2_shorten wsX2_left := goodIn_r _ [20, 2, 21, 39, 40, 41, 42, 43, 44, 45, 46, 47, 48, 49, 50, 51] (by decide +kernel) (by decide +kernel)
set_option maxRecDepth 20000 in
theorem gX2_shorten_X2_left : GoodIn wsX2_shorten (wsV RX2 67 RX2 yX2_left wsX2_left) := goodIn_app (goodIn_of _ (by decide +kernel)) ggX2_shorten_X2_left
set_option maxRecDepth 20000 in
theorem ggX2_shorten_X2_givenUp : GoodIn wsX2_shorten wsX2_givenUp := goodIn_r _ [25, 26, 3, 27, 28, 29, 30, 7, 31, 21, 32, 33, 34, 35, 36, 37, 2, 38, 39, 40, 41, 42, 43, 44, 45, 46, 47, 48, 49, 50, 51] (by decide +kernel) (by decide +kernel)
set_option maxRecDepth 20000 in
theorem gX2_shorten_X2_givenUp : GoodIn wsX2_shorten (wsV RX2 83 RX2 yX2_givenUp wsX2_givenUp) := goodIn_app (goodIn_of _ (by decide +kernel)) ggX2_shorten_X2_givenUp
theorem dX2_shorten_0 : decode cX2_shorten 0 = .ok (.aload_n 0, 1) := by decide +kernel
theorem dX2_shorten_1 : decode cX2_shorten 1 = .ok (.iconst 0, 1) := by decide +kernel
theorem dX2_shorten_2 : decode cX2_shorten 2 = .ok (.putfield 43, 3) := by decide +kernel
theorem dX2_shorten_5 : decode cX2_shorten 5 = .ok (.aload_n 0, 1) := by decide +kernel
theorem dX2_shorten_6 : decode cX2_shorten 6 = .ok (.iload_n 1, 1) := by decide +kernel
theorem dX2_shorten_7 : decode cX2_shorten 7 = .ok (.invokevirtual 74, 3) := by decide +kernel
theorem dX2_shorten_10 : decode cX2_shorten 10 = .ok (.ifCond .eq 9, 3) := by decide +kernel
theorem dX2_shorten_13 : decode cX2_shorten 13 = .ok (.aload_n 0, 1) := by decide +kernel
theorem dX2_shorten_14 : decode cX2_shorten 14 = .ok (.iconst 1, 1) := by decide +kernel
theorem dX2_shorten_15 : decode cX2_shorten 15 = .ok (.invokevirtual 60, 3) := by decide +kernel
theorem dX2_shorten_18 : decode cX2_shorten 18 = .ok (.ireturn, 1) := by decide +kernel
theorem dX2_shorten_19 : decode cX2_shorten 19 = .ok (.iload_n 2, 1) := by decide +kernel
theorem dX2_shorten_20 : decode cX2_shorten 20 = .ok (.iconst 1, 1) := by decide +kernel
theorem dX2_shorten_21 : decode cX2_shorten 21 = .ok (.bipush 60, 2) := by decide +kernel
theorem dX2_shorten_23 : decode cX2_shorten 23 = .ok (.invokestatic 50, 3) := by decide +kernel
theorem dX2_shorten_26 : decode cX2_shorten 26 = .ok (.ifCond .ne 9, 3) := by decide +kernel
theorem dX2_shorten_29 : decode cX2_shorten 29 = .ok (.aload_n 0, 1) := by decide +kernel
theorem dX2_shorten_30 : decode cX2_shorten 30 = .ok (.iconst 2, 1) := by decide +kernel
theorem dX2_shorten_31 : decode cX2_shorten 31 = .ok (.invokevirtual 60, 3) := by decide +kernel
theorem dX2_shorten_34 : decode cX2_shorten 34 = .ok (.ireturn, 1) := by decide +kernel
theorem dX2_shorten_35 : decode cX2_shorten 35 = .ok (.aload_n 0, 1) := by decide +kernel
theorem dX2_shorten_36 : decode cX2_shorten 36 = .ok (.iload_n 1, 1) := by decide +kernel
theorem dX2_shorten_37 : decode cX2_shorten 37 = .ok (.invokevirtual 67, 3) := by decide +kernel
theorem dX2_shorten_40 : decode cX2_shorten 40 = .ok (.istore_n 3, 1) := by decide +kernel
theorem dX2_shorten_41 : decode cX2_shorten 41 = .ok (.iload_n 3, 1) := by decide +kernel
theorem dX2_shorten_42 : decode cX2_shorten 42 = .ok (.iload_n 2, 1) := by decide +kernel
theorem dX2_shorten_43 : decode cX2_shorten 43 = .ok (.isub, 1) := by decide +kernel
theorem dX2_shorten_44 : decode cX2_shorten 44 = .ok (.iconst 1, 1) := by decide +kernel
theorem dX2_shorten_45 : decode cX2_shorten 45 = .ok (.if_icmp .ge 9, 3) := by decide +kernel
theorem dX2_shorten_48 : decode cX2_shorten 48 = .ok (.aload_n 0, 1) := by decide +kernel
theorem dX2_shorten_49 : decode cX2_shorten 49 = .ok (.iconst 3, 1) := by decide +kernel
theorem dX2_shorten_50 : decode cX2_shorten 50 = .ok (.invokevirtual 60, 3) := by decide +kernel
theorem dX2_shorten_53 : decode cX2_shorten 53 = .ok (.ireturn, 1) := by decide +kernel
theorem dX2_shorten_54 : decode cX2_shorten 54 = .ok (.aload_n 0, 1) := by decide +kernel
theorem dX2_shorten_55 : decode cX2_shorten 55 = .ok (.getfield 13, 3) := by decide +kernel
theorem dX2_shorten_58 : decode cX2_shorten 58 = .ok (.iload_n 1, 1) := by decide +kernel
theorem dX2_shorten_59 : decode cX2_shorten 59 = .ok (.dup2, 1) := by decide +kernel
theorem dX2_shorten_60 : decode cX2_shorten 60 = .ok (.iaload, 1) := by decide +kernel
theorem dX2_shorten_61 : decode cX2_shorten 61 = .ok (.iload_n 2, 1) := by decide +kernel
theorem dX2_shorten_62 : decode cX2_shorten 62 = .ok (.isub, 1) := by decide +kernel
theorem dX2_shorten_63 : decode cX2_shorten 63 = .ok (.iastore, 1) := by decide +kernel
theorem dX2_shorten_64 : decode cX2_shorten 64 = .ok (.aload_n 0, 1) := by decide +kernel
theorem dX2_shorten_65 : decode cX2_shorten 65 = .ok (.iload_n 1, 1) := by decide +kernel
theorem dX2_shorten_66 : decode cX2_shorten 66 = .ok (.aload_n 0, 1) := by decide +kernel
theorem dX2_shorten_67 : decode cX2_shorten 67 = .ok (.getfield 28, 3) := by decide +kernel
theorem dX2_shorten_70 : decode cX2_shorten 70 = .ok (.iload_n 1, 1) := by decide +kernel
theorem dX2_shorten_71 : decode cX2_shorten 71 = .ok (.iaload, 1) := by decide +kernel
theorem dX2_shorten_72 : decode cX2_shorten 72 = .ok (.i2l, 1) := by decide +kernel
theorem dX2_shorten_73 : decode cX2_shorten 73 = .ok (.iload_n 3, 1) := by decide +kernel
theorem dX2_shorten_74 : decode cX2_shorten 74 = .ok (.iload_n 2, 1) := by decide +kernel
theorem dX2_shorten_75 : decode cX2_shorten 75 = .ok (.isub, 1) := by decide +kernel
theorem dX2_shorten_76 : decode cX2_shorten 76 = .ok (.i2l, 1) := by decide +kernel
theorem dX2_shorten_77 : decode cX2_shorten 77 = .ok (.lmul, 1) := by decide +kernel
theorem dX2_shorten_78 : decode cX2_shorten 78 = .ok (.iload_n 3, 1) := by decide +kernel
theorem dX2_shorten_79 : decode cX2_shorten 79 = .ok (.i2l, 1) := by decide +kernel
theorem dX2_shorten_80 : decode cX2_shorten 80 = .ok (.ldiv, 1) := by decide +kernel
theorem dX2_shorten_81 : decode cX2_shorten 81 = .ok (.l2i, 1) := by decide +kernel
theorem dX2_shorten_82 : decode cX2_shorten 82 = .ok (.invokevirtual 83, 3) := by decide +kernel
theorem dX2_shorten_85 : decode cX2_shorten 85 = .ok (.ireturn, 1) := by decide +kernel
set_option maxRecDepth 20000 in
theorem ggX2_cut_X2_isNoLease : GoodIn wsX2_cut wsX2_isNoLease := goodIn_r _ [11, 12, 13, 14, 10, 15, 40, 41, 42, 43, 44, 45, 46, 47, 48, 49, 50, 51, 52] (by decide +kernel) (by decide +kernel)
set_option maxRecDepth 20000 in
theorem gX2_cut_X2_isNoLease : GoodIn wsX2_cut (wsV RX2 74 RX2 yX2_isNoLease wsX2_isNoLease) := goodIn_app (goodIn_of _ (by decide +kernel)) ggX2_cut_X2_isNoLease
set_option maxRecDepth 20000 in
theorem ggX2_cut_X2_fails : GoodIn wsX2_cut wsX2_fails := goodIn_r _ [19, 1, 40, 41, 42, 43, 44, 45, 46, 47, 48, 49, 50, 51, 52] (by decide +kernel) (by decide +kernel)
set_option maxRecDepth 20000 in
theorem gX2_cut_X2_fails : GoodIn wsX2_cut (wsV RX2 60 RX2 yX2_fails wsX2_fails) := goodIn_app (goodIn_of _ (by decide +kernel)) ggX2_cut_X2_fails
set_option maxRecDepth 20000 in
theorem ggX2_cut_X2_in : GoodIn wsX2_cut wsX2_in := goodIn_r _ [15] (by decide +kernel) (by decide +kernel)
set_option maxRecDepth 20000 in
theorem gX2_cut_X2_in : GoodIn wsX2_cut (va_wsS RX2 50 yX2_in wsX2_in) := goodIn_app (goodIn_of _ (by decide +kernel)) ggX2_cut_X2_in
set_option maxRecDepth 20000 in
theorem ggX2_cut_X2_left : GoodIn wsX2_cut wsX2_left := goodIn_r _ [23, 3, 2, 40, 41, 42, 43, 44, 45, 46, 47, 48, 49, 50, 51, 52] (by decide +kernel) (by decide +kernel)
set_option maxRecDepth 20000 in
theorem gX2_cut_X2_left : GoodIn wsX2_cut (wsV RX2 67 RX2 yX2_left wsX2_left) := goodIn_app (goodIn_of _ (by decide +kernel)) ggX2_cut_X2_left
set_option maxRecDepth 20000 in
theorem ggX2_cut_X2_givenUp : GoodIn wsX2_cut wsX2_givenUp := goodIn_r _ [27, 28, 6, 29, 30, 31, 32, 10, 33, 2, 34, 35, 36, 37, 38, 39, 3, 4, 40, 41, 42, 43, 44, 45, 46, 47, 48, 49, 50, 51, 52] (by decide +kernel) (by decide +kernel)
set_option maxRecDepth 20000 in
theorem gX2_cut_X2_givenUp : GoodIn wsX2_cut (wsV RX2 83 RX2 yX2_givenUp wsX2_givenUp) := goodIn_app (goodIn_of _ (by decide +kernel)) ggX2_cut_X2_givenUp
theorem dX2_cut_0 : decode cX2_cut 0 = .ok (.aload_n 0, 1) := by decide +kernel
theorem dX2_cut_1 : decode cX2_cut 1 = .ok (.iconst 0, 1) := by decide +kernel
theorem dX2_cut_2 : decode cX2_cut 2 = .ok (.putfield 43, 3) := by decide +kernel
theorem dX2_cut_5 : decode cX2_cut 5 = .ok (.aload_n 0, 1) := by decide +kernel
theorem dX2_cut_6 : decode cX2_cut 6 = .ok (.iload_n 1, 1) := by decide +kernel
theorem dX2_cut_7 : decode cX2_cut 7 = .ok (.invokevirtual 74, 3) := by decide +kernel
theorem dX2_cut_10 : decode cX2_cut 10 = .ok (.ifCond .eq 9, 3) := by decide +kernel
theorem dX2_cut_13 : decode cX2_cut 13 = .ok (.aload_n 0, 1) := by decide +kernel
theorem dX2_cut_14 : decode cX2_cut 14 = .ok (.iconst 1, 1) := by decide +kernel
theorem dX2_cut_15 : decode cX2_cut 15 = .ok (.invokevirtual 60, 3) := by decide +kernel
theorem dX2_cut_18 : decode cX2_cut 18 = .ok (.ireturn, 1) := by decide +kernel
theorem dX2_cut_19 : decode cX2_cut 19 = .ok (.iload_n 2, 1) := by decide +kernel
theorem dX2_cut_20 : decode cX2_cut 20 = .ok (.iconst 1, 1) := by decide +kernel
theorem dX2_cut_21 : decode cX2_cut 21 = .ok (.bipush 99, 2) := by decide +kernel
theorem dX2_cut_23 : decode cX2_cut 23 = .ok (.invokestatic 50, 3) := by decide +kernel
theorem dX2_cut_26 : decode cX2_cut 26 = .ok (.ifCond .ne 9, 3) := by decide +kernel
theorem dX2_cut_29 : decode cX2_cut 29 = .ok (.aload_n 0, 1) := by decide +kernel
theorem dX2_cut_30 : decode cX2_cut 30 = .ok (.iconst 2, 1) := by decide +kernel
theorem dX2_cut_31 : decode cX2_cut 31 = .ok (.invokevirtual 60, 3) := by decide +kernel
theorem dX2_cut_34 : decode cX2_cut 34 = .ok (.ireturn, 1) := by decide +kernel
theorem dX2_cut_35 : decode cX2_cut 35 = .ok (.aload_n 0, 1) := by decide +kernel
theorem dX2_cut_36 : decode cX2_cut 36 = .ok (.iload_n 1, 1) := by decide +kernel
theorem dX2_cut_37 : decode cX2_cut 37 = .ok (.invokevirtual 67, 3) := by decide +kernel
theorem dX2_cut_40 : decode cX2_cut 40 = .ok (.ifCond .ne 9, 3) := by decide +kernel
theorem dX2_cut_43 : decode cX2_cut 43 = .ok (.aload_n 0, 1) := by decide +kernel
theorem dX2_cut_44 : decode cX2_cut 44 = .ok (.iconst 3, 1) := by decide +kernel
theorem dX2_cut_45 : decode cX2_cut 45 = .ok (.invokevirtual 60, 3) := by decide +kernel
theorem dX2_cut_48 : decode cX2_cut 48 = .ok (.ireturn, 1) := by decide +kernel
theorem dX2_cut_49 : decode cX2_cut 49 = .ok (.aload_n 0, 1) := by decide +kernel
theorem dX2_cut_50 : decode cX2_cut 50 = .ok (.getfield 16, 3) := by decide +kernel
theorem dX2_cut_53 : decode cX2_cut 53 = .ok (.iload_n 1, 1) := by decide +kernel
theorem dX2_cut_54 : decode cX2_cut 54 = .ok (.iaload, 1) := by decide +kernel
theorem dX2_cut_55 : decode cX2_cut 55 = .ok (.istore_n 3, 1) := by decide +kernel
theorem dX2_cut_56 : decode cX2_cut 56 = .ok (.iload_n 3, 1) := by decide +kernel
theorem dX2_cut_57 : decode cX2_cut 57 = .ok (.aload_n 0, 1) := by decide +kernel
theorem dX2_cut_58 : decode cX2_cut 58 = .ok (.getfield 13, 3) := by decide +kernel
theorem dX2_cut_61 : decode cX2_cut 61 = .ok (.iload_n 1, 1) := by decide +kernel
theorem dX2_cut_62 : decode cX2_cut 62 = .ok (.iaload, 1) := by decide +kernel
theorem dX2_cut_63 : decode cX2_cut 63 = .ok (.if_icmp .ge 43, 3) := by decide +kernel
theorem dX2_cut_66 : decode cX2_cut 66 = .ok (.aload_n 0, 1) := by decide +kernel
theorem dX2_cut_67 : decode cX2_cut 67 = .ok (.getfield 7, 3) := by decide +kernel
theorem dX2_cut_70 : decode cX2_cut 70 = .ok (.bipush 120, 2) := by decide +kernel
theorem dX2_cut_72 : decode cX2_cut 72 = .ok (.iload_n 1, 1) := by decide +kernel
theorem dX2_cut_73 : decode cX2_cut 73 = .ok (.imul, 1) := by decide +kernel
theorem dX2_cut_74 : decode cX2_cut 74 = .ok (.iload_n 3, 1) := by decide +kernel
theorem dX2_cut_75 : decode cX2_cut 75 = .ok (.iadd, 1) := by decide +kernel
theorem dX2_cut_76 : decode cX2_cut 76 = .ok (.aload_n 0, 1) := by decide +kernel
theorem dX2_cut_77 : decode cX2_cut 77 = .ok (.getfield 7, 3) := by decide +kernel
theorem dX2_cut_80 : decode cX2_cut 80 = .ok (.bipush 120, 2) := by decide +kernel
theorem dX2_cut_82 : decode cX2_cut 82 = .ok (.iload_n 1, 1) := by decide +kernel
theorem dX2_cut_83 : decode cX2_cut 83 = .ok (.imul, 1) := by decide +kernel
theorem dX2_cut_84 : decode cX2_cut 84 = .ok (.iload_n 3, 1) := by decide +kernel
theorem dX2_cut_85 : decode cX2_cut 85 = .ok (.iadd, 1) := by decide +kernel
theorem dX2_cut_86 : decode cX2_cut 86 = .ok (.iaload, 1) := by decide +kernel
theorem dX2_cut_87 : decode cX2_cut 87 = .ok (.i2l, 1) := by decide +kernel
theorem dX2_cut_88 : decode cX2_cut 88 = .ok (.bipush 100, 2) := by decide +kernel
theorem dX2_cut_90 : decode cX2_cut 90 = .ok (.iload_n 2, 1) := by decide +kernel
theorem dX2_cut_91 : decode cX2_cut 91 = .ok (.isub, 1) := by decide +kernel
theorem dX2_cut_92 : decode cX2_cut 92 = .ok (.i2l, 1) := by decide +kernel
theorem dX2_cut_93 : decode cX2_cut 93 = .ok (.lmul, 1) := by decide +kernel
theorem dX2_cut_94 : decode cX2_cut 94 = .ok (.ldc2_w 78, 3) := by decide +kernel
theorem dX2_cut_97 : decode cX2_cut 97 = .ok (.ldiv, 1) := by decide +kernel
theorem dX2_cut_98 : decode cX2_cut 98 = .ok (.l2i, 1) := by decide +kernel
theorem dX2_cut_99 : decode cX2_cut 99 = .ok (.iastore, 1) := by decide +kernel
theorem dX2_cut_100 : decode cX2_cut 100 = .ok (.iinc 3 1, 3) := by decide +kernel
theorem dX2_cut_103 : decode cX2_cut 103 = .ok (.goto (-47), 3) := by decide +kernel
theorem dX2_cut_106 : decode cX2_cut 106 = .ok (.aload_n 0, 1) := by decide +kernel
theorem dX2_cut_107 : decode cX2_cut 107 = .ok (.iload_n 1, 1) := by decide +kernel
theorem dX2_cut_108 : decode cX2_cut 108 = .ok (.aload_n 0, 1) := by decide +kernel
theorem dX2_cut_109 : decode cX2_cut 109 = .ok (.getfield 28, 3) := by decide +kernel
theorem dX2_cut_112 : decode cX2_cut 112 = .ok (.iload_n 1, 1) := by decide +kernel
theorem dX2_cut_113 : decode cX2_cut 113 = .ok (.iaload, 1) := by decide +kernel
theorem dX2_cut_114 : decode cX2_cut 114 = .ok (.i2l, 1) := by decide +kernel
theorem dX2_cut_115 : decode cX2_cut 115 = .ok (.bipush 100, 2) := by decide +kernel
theorem dX2_cut_117 : decode cX2_cut 117 = .ok (.iload_n 2, 1) := by decide +kernel
theorem dX2_cut_118 : decode cX2_cut 118 = .ok (.isub, 1) := by decide +kernel
theorem dX2_cut_119 : decode cX2_cut 119 = .ok (.i2l, 1) := by decide +kernel
theorem dX2_cut_120 : decode cX2_cut 120 = .ok (.lmul, 1) := by decide +kernel
theorem dX2_cut_121 : decode cX2_cut 121 = .ok (.ldc2_w 78, 3) := by decide +kernel
theorem dX2_cut_124 : decode cX2_cut 124 = .ok (.ldiv, 1) := by decide +kernel
theorem dX2_cut_125 : decode cX2_cut 125 = .ok (.l2i, 1) := by decide +kernel
theorem dX2_cut_126 : decode cX2_cut 126 = .ok (.invokevirtual 83, 3) := by decide +kernel
theorem dX2_cut_129 : decode cX2_cut 129 = .ok (.ireturn, 1) := by decide +kernel
set_option maxRecDepth 20000 in
theorem ggX2_toCome_X2_isNoLease : GoodIn wsX2_toCome wsX2_isNoLease := goodIn_r _ [6, 7, 8, 9, 5, 10, 21, 22, 23, 24, 25, 26, 27, 28, 29, 30, 31, 32, 33] (by decide +kernel) (by decide +kernel)
set_option maxRecDepth 20000 in
theorem gX2_toCome_X2_isNoLease : GoodIn wsX2_toCome (wsV RX2 74 RX2 yX2_isNoLease wsX2_isNoLease) := goodIn_app (goodIn_of _ (by decide +kernel)) ggX2_toCome_X2_isNoLease
set_option maxRecDepth 20000 in
theorem ggX2_toCome_X2_fails : GoodIn wsX2_toCome wsX2_fails := goodIn_r _ [14, 1, 21, 22, 23, 24, 25, 26, 27, 28, 29, 30, 31, 32, 33] (by decide +kernel) (by decide +kernel)
set_option maxRecDepth 20000 in
theorem gX2_toCome_X2_fails : GoodIn wsX2_toCome (wsV RX2 60 RX2 yX2_fails wsX2_fails) := goodIn_app (goodIn_of _ (by decide +kernel)) ggX2_toCome_X2_fails
set_option maxRecDepth 20000 in
theorem ggX2_toCome_X2_left : GoodIn wsX2_toCome wsX2_left := goodIn_r _ [18, 19, 20, 21, 22, 23, 24, 25, 26, 27, 28, 29, 30, 31, 32, 33] (by decide +kernel) (by decide +kernel)
set_option maxRecDepth 20000 in
theorem gX2_toCome_X2_left : GoodIn wsX2_toCome (wsV RX2 67 RX2 yX2_left wsX2_left) := goodIn_app (goodIn_of _ (by decide +kernel)) ggX2_toCome_X2_left
theorem dX2_toCome_0 : decode cX2_toCome 0 = .ok (.aload_n 0, 1) := by decide +kernel
theorem dX2_toCome_1 : decode cX2_toCome 1 = .ok (.iconst 0, 1) := by decide +kernel
theorem dX2_toCome_2 : decode cX2_toCome 2 = .ok (.putfield 43, 3) := by decide +kernel
theorem dX2_toCome_5 : decode cX2_toCome 5 = .ok (.aload_n 0, 1) := by decide +kernel
theorem dX2_toCome_6 : decode cX2_toCome 6 = .ok (.iload_n 1, 1) := by decide +kernel
theorem dX2_toCome_7 : decode cX2_toCome 7 = .ok (.invokevirtual 74, 3) := by decide +kernel
theorem dX2_toCome_10 : decode cX2_toCome 10 = .ok (.ifCond .eq 11, 3) := by decide +kernel
theorem dX2_toCome_13 : decode cX2_toCome 13 = .ok (.aload_n 0, 1) := by decide +kernel
theorem dX2_toCome_14 : decode cX2_toCome 14 = .ok (.iconst 1, 1) := by decide +kernel
theorem dX2_toCome_15 : decode cX2_toCome 15 = .ok (.invokevirtual 60, 3) := by decide +kernel
theorem dX2_toCome_18 : decode cX2_toCome 18 = .ok (.goto 8, 3) := by decide +kernel
theorem dX2_toCome_21 : decode cX2_toCome 21 = .ok (.aload_n 0, 1) := by decide +kernel
theorem dX2_toCome_22 : decode cX2_toCome 22 = .ok (.iload_n 1, 1) := by decide +kernel
theorem dX2_toCome_23 : decode cX2_toCome 23 = .ok (.invokevirtual 67, 3) := by decide +kernel
theorem dX2_toCome_26 : decode cX2_toCome 26 = .ok (.ireturn, 1) := by decide +kernel
set_option maxRecDepth 20000 in
theorem ggX2_payment_X2_isNoLease : GoodIn wsX2_payment wsX2_isNoLease := goodIn_r _ [8, 9, 10, 11, 7, 12, 22, 23, 24, 25, 26, 27, 28, 29, 30, 31, 32, 33, 34] (by decide +kernel) (by decide +kernel)
set_option maxRecDepth 20000 in
theorem gX2_payment_X2_isNoLease : GoodIn wsX2_payment (wsV RX2 74 RX2 yX2_isNoLease wsX2_isNoLease) := goodIn_app (goodIn_of _ (by decide +kernel)) ggX2_payment_X2_isNoLease
set_option maxRecDepth 20000 in
theorem ggX2_payment_X2_left : GoodIn wsX2_payment wsX2_left := goodIn_r _ [16, 17, 3, 22, 23, 24, 25, 26, 27, 28, 29, 30, 31, 32, 33, 34] (by decide +kernel) (by decide +kernel)
set_option maxRecDepth 20000 in
theorem gX2_payment_X2_left : GoodIn wsX2_payment (wsV RX2 67 RX2 yX2_left wsX2_left) := goodIn_app (goodIn_of _ (by decide +kernel)) ggX2_payment_X2_left
set_option maxRecDepth 20000 in
theorem ggX2_payment_X2_in : GoodIn wsX2_payment wsX2_in := goodIn_r _ [12] (by decide +kernel) (by decide +kernel)
set_option maxRecDepth 20000 in
theorem gX2_payment_X2_in : GoodIn wsX2_payment (va_wsS RX2 50 yX2_in wsX2_in) := goodIn_app (goodIn_of _ (by decide +kernel)) ggX2_payment_X2_in
set_option maxRecDepth 20000 in
theorem ggX2_payment_X2_fails : GoodIn wsX2_payment wsX2_fails := goodIn_r _ [21, 1, 22, 23, 24, 25, 26, 27, 28, 29, 30, 31, 32, 33, 34] (by decide +kernel) (by decide +kernel)
set_option maxRecDepth 20000 in
theorem gX2_payment_X2_fails : GoodIn wsX2_payment (wsV RX2 60 RX2 yX2_fails wsX2_fails) := goodIn_app (goodIn_of _ (by decide +kernel)) ggX2_payment_X2_fails
theorem dX2_payment_0 : decode cX2_payment 0 = .ok (.aload_n 0, 1) := by decide +kernel
theorem dX2_payment_1 : decode cX2_payment 1 = .ok (.iconst 0, 1) := by decide +kernel
theorem dX2_payment_2 : decode cX2_payment 2 = .ok (.putfield 43, 3) := by decide +kernel
theorem dX2_payment_5 : decode cX2_payment 5 = .ok (.aload_n 0, 1) := by decide +kernel
theorem dX2_payment_6 : decode cX2_payment 6 = .ok (.iload_n 1, 1) := by decide +kernel
theorem dX2_payment_7 : decode cX2_payment 7 = .ok (.invokevirtual 74, 3) := by decide +kernel
theorem dX2_payment_10 : decode cX2_payment 10 = .ok (.ifCond .ne 18, 3) := by decide +kernel
theorem dX2_payment_13 : decode cX2_payment 13 = .ok (.iload_n 2, 1) := by decide +kernel
theorem dX2_payment_14 : decode cX2_payment 14 = .ok (.iconst 0, 1) := by decide +kernel
theorem dX2_payment_15 : decode cX2_payment 15 = .ok (.aload_n 0, 1) := by decide +kernel
theorem dX2_payment_16 : decode cX2_payment 16 = .ok (.iload_n 1, 1) := by decide +kernel
theorem dX2_payment_17 : decode cX2_payment 17 = .ok (.invokevirtual 67, 3) := by decide +kernel
theorem dX2_payment_20 : decode cX2_payment 20 = .ok (.iconst 1, 1) := by decide +kernel
theorem dX2_payment_21 : decode cX2_payment 21 = .ok (.isub, 1) := by decide +kernel
theorem dX2_payment_22 : decode cX2_payment 22 = .ok (.invokestatic 50, 3) := by decide +kernel
theorem dX2_payment_25 : decode cX2_payment 25 = .ok (.ifCond .ne 11, 3) := by decide +kernel
theorem dX2_payment_28 : decode cX2_payment 28 = .ok (.aload_n 0, 1) := by decide +kernel
theorem dX2_payment_29 : decode cX2_payment 29 = .ok (.iconst 1, 1) := by decide +kernel
theorem dX2_payment_30 : decode cX2_payment 30 = .ok (.invokevirtual 60, 3) := by decide +kernel
theorem dX2_payment_33 : decode cX2_payment 33 = .ok (.goto 21, 3) := by decide +kernel
theorem dX2_payment_36 : decode cX2_payment 36 = .ok (.aload_n 0, 1) := by decide +kernel
theorem dX2_payment_37 : decode cX2_payment 37 = .ok (.getfield 7, 3) := by decide +kernel
theorem dX2_payment_40 : decode cX2_payment 40 = .ok (.bipush 120, 2) := by decide +kernel
theorem dX2_payment_42 : decode cX2_payment 42 = .ok (.iload_n 1, 1) := by decide +kernel
theorem dX2_payment_43 : decode cX2_payment 43 = .ok (.imul, 1) := by decide +kernel
theorem dX2_payment_44 : decode cX2_payment 44 = .ok (.aload_n 0, 1) := by decide +kernel
theorem dX2_payment_45 : decode cX2_payment 45 = .ok (.getfield 16, 3) := by decide +kernel
theorem dX2_payment_48 : decode cX2_payment 48 = .ok (.iload_n 1, 1) := by decide +kernel
theorem dX2_payment_49 : decode cX2_payment 49 = .ok (.iaload, 1) := by decide +kernel
theorem dX2_payment_50 : decode cX2_payment 50 = .ok (.iadd, 1) := by decide +kernel
theorem dX2_payment_51 : decode cX2_payment 51 = .ok (.iload_n 2, 1) := by decide +kernel
theorem dX2_payment_52 : decode cX2_payment 52 = .ok (.iadd, 1) := by decide +kernel
theorem dX2_payment_53 : decode cX2_payment 53 = .ok (.iaload, 1) := by decide +kernel
theorem dX2_payment_54 : decode cX2_payment 54 = .ok (.ireturn, 1) := by decide +kernel
set_option maxRecDepth 20000 in
theorem ggX2_debt_X2_isNoLease : GoodIn wsX2_debt wsX2_isNoLease := goodIn_r _ [7, 8, 9, 10, 6, 11, 16, 17, 18, 19, 20, 21, 22, 23, 24, 25, 26, 27, 28] (by decide +kernel) (by decide +kernel)
set_option maxRecDepth 20000 in
theorem gX2_debt_X2_isNoLease : GoodIn wsX2_debt (wsV RX2 74 RX2 yX2_isNoLease wsX2_isNoLease) := goodIn_app (goodIn_of _ (by decide +kernel)) ggX2_debt_X2_isNoLease
set_option maxRecDepth 20000 in
theorem ggX2_debt_X2_fails : GoodIn wsX2_debt wsX2_fails := goodIn_r _ [15, 1, 16, 17, 18, 19, 20, 21, 22, 23, 24, 25, 26, 27, 28] (by decide +kernel) (by decide +kernel)
set_option maxRecDepth 20000 in
theorem gX2_debt_X2_fails : GoodIn wsX2_debt (wsV RX2 60 RX2 yX2_fails wsX2_fails) := goodIn_app (goodIn_of _ (by decide +kernel)) ggX2_debt_X2_fails
theorem dX2_debt_0 : decode cX2_debt 0 = .ok (.aload_n 0, 1) := by decide +kernel
theorem dX2_debt_1 : decode cX2_debt 1 = .ok (.iconst 0, 1) := by decide +kernel
theorem dX2_debt_2 : decode cX2_debt 2 = .ok (.putfield 43, 3) := by decide +kernel
theorem dX2_debt_5 : decode cX2_debt 5 = .ok (.aload_n 0, 1) := by decide +kernel
theorem dX2_debt_6 : decode cX2_debt 6 = .ok (.iload_n 1, 1) := by decide +kernel
theorem dX2_debt_7 : decode cX2_debt 7 = .ok (.invokevirtual 74, 3) := by decide +kernel
theorem dX2_debt_10 : decode cX2_debt 10 = .ok (.ifCond .eq 11, 3) := by decide +kernel
theorem dX2_debt_13 : decode cX2_debt 13 = .ok (.aload_n 0, 1) := by decide +kernel
theorem dX2_debt_14 : decode cX2_debt 14 = .ok (.iconst 1, 1) := by decide +kernel
theorem dX2_debt_15 : decode cX2_debt 15 = .ok (.invokevirtual 60, 3) := by decide +kernel
theorem dX2_debt_18 : decode cX2_debt 18 = .ok (.goto 9, 3) := by decide +kernel
theorem dX2_debt_21 : decode cX2_debt 21 = .ok (.aload_n 0, 1) := by decide +kernel
theorem dX2_debt_22 : decode cX2_debt 22 = .ok (.getfield 25, 3) := by decide +kernel
theorem dX2_debt_25 : decode cX2_debt 25 = .ok (.iload_n 1, 1) := by decide +kernel
theorem dX2_debt_26 : decode cX2_debt 26 = .ok (.iaload, 1) := by decide +kernel
theorem dX2_debt_27 : decode cX2_debt 27 = .ok (.ireturn, 1) := by decide +kernel
set_option maxRecDepth 20000 in
theorem ggX2_debtByWorth_X2_isNoLease : GoodIn wsX2_debtByWorth wsX2_isNoLease := goodIn_r _ [6, 7, 8, 9, 5, 10, 28, 29, 30, 31, 32, 33, 34, 35, 36, 37, 38, 39, 40] (by decide +kernel) (by decide +kernel)
set_option maxRecDepth 20000 in
theorem gX2_debtByWorth_X2_isNoLease : GoodIn wsX2_debtByWorth (wsV RX2 74 RX2 yX2_isNoLease wsX2_isNoLease) := goodIn_app (goodIn_of _ (by decide +kernel)) ggX2_debtByWorth_X2_isNoLease
set_option maxRecDepth 20000 in
theorem ggX2_debtByWorth_X2_fails : GoodIn wsX2_debtByWorth wsX2_fails := goodIn_r _ [14, 1, 28, 29, 30, 31, 32, 33, 34, 35, 36, 37, 38, 39, 40] (by decide +kernel) (by decide +kernel)
set_option maxRecDepth 20000 in
theorem gX2_debtByWorth_X2_fails : GoodIn wsX2_debtByWorth (wsV RX2 60 RX2 yX2_fails wsX2_fails) := goodIn_app (goodIn_of _ (by decide +kernel)) ggX2_debtByWorth_X2_fails
set_option maxRecDepth 20000 in
theorem ggX2_debtByWorth_X2_worthNow : GoodIn wsX2_debtByWorth wsX2_worthNow := goodIn_r _ [18, 19, 20, 21, 22, 23, 5, 24, 25, 26, 27, 28, 29, 30, 31, 32, 33, 34, 35, 36, 37, 38, 39, 40] (by decide +kernel) (by decide +kernel)
set_option maxRecDepth 20000 in
theorem gX2_debtByWorth_X2_worthNow : GoodIn wsX2_debtByWorth (wsV RX2 64 RX2 yX2_worthNow wsX2_worthNow) := goodIn_app (goodIn_of _ (by decide +kernel)) ggX2_debtByWorth_X2_worthNow
theorem dX2_debtByWorth_0 : decode cX2_debtByWorth 0 = .ok (.aload_n 0, 1) := by decide +kernel
theorem dX2_debtByWorth_1 : decode cX2_debtByWorth 1 = .ok (.iconst 0, 1) := by decide +kernel
theorem dX2_debtByWorth_2 : decode cX2_debtByWorth 2 = .ok (.putfield 43, 3) := by decide +kernel
theorem dX2_debtByWorth_5 : decode cX2_debtByWorth 5 = .ok (.aload_n 0, 1) := by decide +kernel
theorem dX2_debtByWorth_6 : decode cX2_debtByWorth 6 = .ok (.iload_n 1, 1) := by decide +kernel
theorem dX2_debtByWorth_7 : decode cX2_debtByWorth 7 = .ok (.invokevirtual 74, 3) := by decide +kernel
theorem dX2_debtByWorth_10 : decode cX2_debtByWorth 10 = .ok (.ifCond .eq 11, 3) := by decide +kernel
theorem dX2_debtByWorth_13 : decode cX2_debtByWorth 13 = .ok (.aload_n 0, 1) := by decide +kernel
theorem dX2_debtByWorth_14 : decode cX2_debtByWorth 14 = .ok (.iconst 1, 1) := by decide +kernel
theorem dX2_debtByWorth_15 : decode cX2_debtByWorth 15 = .ok (.invokevirtual 60, 3) := by decide +kernel
theorem dX2_debtByWorth_18 : decode cX2_debtByWorth 18 = .ok (.goto 8, 3) := by decide +kernel
theorem dX2_debtByWorth_21 : decode cX2_debtByWorth 21 = .ok (.aload_n 0, 1) := by decide +kernel
theorem dX2_debtByWorth_22 : decode cX2_debtByWorth 22 = .ok (.iload_n 1, 1) := by decide +kernel
theorem dX2_debtByWorth_23 : decode cX2_debtByWorth 23 = .ok (.invokevirtual 64, 3) := by decide +kernel
theorem dX2_debtByWorth_26 : decode cX2_debtByWorth 26 = .ok (.ireturn, 1) := by decide +kernel
set_option maxRecDepth 20000 in
theorem ggX2_right_X2_isNoLease : GoodIn wsX2_right wsX2_isNoLease := goodIn_r _ [7, 8, 9, 10, 6, 11, 16, 17, 18, 19, 20, 21, 22, 23, 24, 25, 26, 27, 28] (by decide +kernel) (by decide +kernel)
set_option maxRecDepth 20000 in
theorem gX2_right_X2_isNoLease : GoodIn wsX2_right (wsV RX2 74 RX2 yX2_isNoLease wsX2_isNoLease) := goodIn_app (goodIn_of _ (by decide +kernel)) ggX2_right_X2_isNoLease
set_option maxRecDepth 20000 in
theorem ggX2_right_X2_fails : GoodIn wsX2_right wsX2_fails := goodIn_r _ [15, 1, 16, 17, 18, 19, 20, 21, 22, 23, 24, 25, 26, 27, 28] (by decide +kernel) (by decide +kernel)
set_option maxRecDepth 20000 in
theorem gX2_right_X2_fails : GoodIn wsX2_right (wsV RX2 60 RX2 yX2_fails wsX2_fails) := goodIn_app (goodIn_of _ (by decide +kernel)) ggX2_right_X2_fails
theorem dX2_right_0 : decode cX2_right 0 = .ok (.aload_n 0, 1) := by decide +kernel
theorem dX2_right_1 : decode cX2_right 1 = .ok (.iconst 0, 1) := by decide +kernel
theorem dX2_right_2 : decode cX2_right 2 = .ok (.putfield 43, 3) := by decide +kernel
theorem dX2_right_5 : decode cX2_right 5 = .ok (.aload_n 0, 1) := by decide +kernel
theorem dX2_right_6 : decode cX2_right 6 = .ok (.iload_n 1, 1) := by decide +kernel
theorem dX2_right_7 : decode cX2_right 7 = .ok (.invokevirtual 74, 3) := by decide +kernel
theorem dX2_right_10 : decode cX2_right 10 = .ok (.ifCond .eq 11, 3) := by decide +kernel
theorem dX2_right_13 : decode cX2_right 13 = .ok (.aload_n 0, 1) := by decide +kernel
theorem dX2_right_14 : decode cX2_right 14 = .ok (.iconst 1, 1) := by decide +kernel
theorem dX2_right_15 : decode cX2_right 15 = .ok (.invokevirtual 60, 3) := by decide +kernel
theorem dX2_right_18 : decode cX2_right 18 = .ok (.goto 9, 3) := by decide +kernel
theorem dX2_right_21 : decode cX2_right 21 = .ok (.aload_n 0, 1) := by decide +kernel
theorem dX2_right_22 : decode cX2_right 22 = .ok (.getfield 28, 3) := by decide +kernel
theorem dX2_right_25 : decode cX2_right 25 = .ok (.iload_n 1, 1) := by decide +kernel
theorem dX2_right_26 : decode cX2_right 26 = .ok (.iaload, 1) := by decide +kernel
theorem dX2_right_27 : decode cX2_right 27 = .ok (.ireturn, 1) := by decide +kernel
set_option maxRecDepth 20000 in
theorem ggX2_interest_X2_isNoLease : GoodIn wsX2_interest wsX2_isNoLease := goodIn_r _ [7, 8, 9, 10, 6, 11, 16, 17, 18, 19, 20, 21, 22, 23, 24, 25, 26, 27, 28] (by decide +kernel) (by decide +kernel)
set_option maxRecDepth 20000 in
theorem gX2_interest_X2_isNoLease : GoodIn wsX2_interest (wsV RX2 74 RX2 yX2_isNoLease wsX2_isNoLease) := goodIn_app (goodIn_of _ (by decide +kernel)) ggX2_interest_X2_isNoLease
set_option maxRecDepth 20000 in
theorem ggX2_interest_X2_fails : GoodIn wsX2_interest wsX2_fails := goodIn_r _ [15, 1, 16, 17, 18, 19, 20, 21, 22, 23, 24, 25, 26, 27, 28] (by decide +kernel) (by decide +kernel)
set_option maxRecDepth 20000 in
theorem gX2_interest_X2_fails : GoodIn wsX2_interest (wsV RX2 60 RX2 yX2_fails wsX2_fails) := goodIn_app (goodIn_of _ (by decide +kernel)) ggX2_interest_X2_fails
theorem dX2_interest_0 : decode cX2_interest 0 = .ok (.aload_n 0, 1) := by decide +kernel
theorem dX2_interest_1 : decode cX2_interest 1 = .ok (.iconst 0, 1) := by decide +kernel
theorem dX2_interest_2 : decode cX2_interest 2 = .ok (.putfield 43, 3) := by decide +kernel
theorem dX2_interest_5 : decode cX2_interest 5 = .ok (.aload_n 0, 1) := by decide +kernel
theorem dX2_interest_6 : decode cX2_interest 6 = .ok (.iload_n 1, 1) := by decide +kernel
theorem dX2_interest_7 : decode cX2_interest 7 = .ok (.invokevirtual 74, 3) := by decide +kernel
theorem dX2_interest_10 : decode cX2_interest 10 = .ok (.ifCond .eq 11, 3) := by decide +kernel
theorem dX2_interest_13 : decode cX2_interest 13 = .ok (.aload_n 0, 1) := by decide +kernel
theorem dX2_interest_14 : decode cX2_interest 14 = .ok (.iconst 1, 1) := by decide +kernel
theorem dX2_interest_15 : decode cX2_interest 15 = .ok (.invokevirtual 60, 3) := by decide +kernel
theorem dX2_interest_18 : decode cX2_interest 18 = .ok (.goto 9, 3) := by decide +kernel
theorem dX2_interest_21 : decode cX2_interest 21 = .ok (.aload_n 0, 1) := by decide +kernel
theorem dX2_interest_22 : decode cX2_interest 22 = .ok (.getfield 31, 3) := by decide +kernel
theorem dX2_interest_25 : decode cX2_interest 25 = .ok (.iload_n 1, 1) := by decide +kernel
theorem dX2_interest_26 : decode cX2_interest 26 = .ok (.iaload, 1) := by decide +kernel
theorem dX2_interest_27 : decode cX2_interest 27 = .ok (.ireturn, 1) := by decide +kernel
set_option maxRecDepth 20000 in
theorem ggX2_written_X2_isNoLease : GoodIn wsX2_written wsX2_isNoLease := goodIn_r _ [7, 8, 9, 10, 6, 11, 16, 17, 18, 19, 20, 21, 22, 23, 24, 25, 26, 27, 28] (by decide +kernel) (by decide +kernel)
set_option maxRecDepth 20000 in
theorem gX2_written_X2_isNoLease : GoodIn wsX2_written (wsV RX2 74 RX2 yX2_isNoLease wsX2_isNoLease) := goodIn_app (goodIn_of _ (by decide +kernel)) ggX2_written_X2_isNoLease
set_option maxRecDepth 20000 in
theorem ggX2_written_X2_fails : GoodIn wsX2_written wsX2_fails := goodIn_r _ [15, 1, 16, 17, 18, 19, 20, 21, 22, 23, 24, 25, 26, 27, 28] (by decide +kernel) (by decide +kernel)
set_option maxRecDepth 20000 in
theorem gX2_written_X2_fails : GoodIn wsX2_written (wsV RX2 60 RX2 yX2_fails wsX2_fails) := goodIn_app (goodIn_of _ (by decide +kernel)) ggX2_written_X2_fails
theorem dX2_written_0 : decode cX2_written 0 = .ok (.aload_n 0, 1) := by decide +kernel
theorem dX2_written_1 : decode cX2_written 1 = .ok (.iconst 0, 1) := by decide +kernel
theorem dX2_written_2 : decode cX2_written 2 = .ok (.putfield 43, 3) := by decide +kernel
theorem dX2_written_5 : decode cX2_written 5 = .ok (.aload_n 0, 1) := by decide +kernel
theorem dX2_written_6 : decode cX2_written 6 = .ok (.iload_n 1, 1) := by decide +kernel
theorem dX2_written_7 : decode cX2_written 7 = .ok (.invokevirtual 74, 3) := by decide +kernel
theorem dX2_written_10 : decode cX2_written 10 = .ok (.ifCond .eq 11, 3) := by decide +kernel
theorem dX2_written_13 : decode cX2_written 13 = .ok (.aload_n 0, 1) := by decide +kernel
theorem dX2_written_14 : decode cX2_written 14 = .ok (.iconst 1, 1) := by decide +kernel
theorem dX2_written_15 : decode cX2_written 15 = .ok (.invokevirtual 60, 3) := by decide +kernel
theorem dX2_written_18 : decode cX2_written 18 = .ok (.goto 9, 3) := by decide +kernel
theorem dX2_written_21 : decode cX2_written 21 = .ok (.aload_n 0, 1) := by decide +kernel
theorem dX2_written_22 : decode cX2_written 22 = .ok (.getfield 34, 3) := by decide +kernel
theorem dX2_written_25 : decode cX2_written 25 = .ok (.iload_n 1, 1) := by decide +kernel
theorem dX2_written_26 : decode cX2_written 26 = .ok (.iaload, 1) := by decide +kernel
theorem dX2_written_27 : decode cX2_written 27 = .ok (.ireturn, 1) := by decide +kernel
set_option maxRecDepth 20000 in
theorem ggX2_paid_X2_isNoLease : GoodIn wsX2_paid wsX2_isNoLease := goodIn_r _ [7, 8, 9, 10, 6, 11, 16, 17, 18, 19, 20, 21, 22, 23, 24, 25, 26, 27, 28] (by decide +kernel) (by decide +kernel)
set_option maxRecDepth 20000 in
theorem gX2_paid_X2_isNoLease : GoodIn wsX2_paid (wsV RX2 74 RX2 yX2_isNoLease wsX2_isNoLease) := goodIn_app (goodIn_of _ (by decide +kernel)) ggX2_paid_X2_isNoLease
set_option maxRecDepth 20000 in
theorem ggX2_paid_X2_fails : GoodIn wsX2_paid wsX2_fails := goodIn_r _ [15, 1, 16, 17, 18, 19, 20, 21, 22, 23, 24, 25, 26, 27, 28] (by decide +kernel) (by decide +kernel)
set_option maxRecDepth 20000 in
theorem gX2_paid_X2_fails : GoodIn wsX2_paid (wsV RX2 60 RX2 yX2_fails wsX2_fails) := goodIn_app (goodIn_of _ (by decide +kernel)) ggX2_paid_X2_fails
theorem dX2_paid_0 : decode cX2_paid 0 = .ok (.aload_n 0, 1) := by decide +kernel
theorem dX2_paid_1 : decode cX2_paid 1 = .ok (.iconst 0, 1) := by decide +kernel
theorem dX2_paid_2 : decode cX2_paid 2 = .ok (.putfield 43, 3) := by decide +kernel
theorem dX2_paid_5 : decode cX2_paid 5 = .ok (.aload_n 0, 1) := by decide +kernel
theorem dX2_paid_6 : decode cX2_paid 6 = .ok (.iload_n 1, 1) := by decide +kernel
theorem dX2_paid_7 : decode cX2_paid 7 = .ok (.invokevirtual 74, 3) := by decide +kernel
theorem dX2_paid_10 : decode cX2_paid 10 = .ok (.ifCond .eq 11, 3) := by decide +kernel
theorem dX2_paid_13 : decode cX2_paid 13 = .ok (.aload_n 0, 1) := by decide +kernel
theorem dX2_paid_14 : decode cX2_paid 14 = .ok (.iconst 1, 1) := by decide +kernel
theorem dX2_paid_15 : decode cX2_paid 15 = .ok (.invokevirtual 60, 3) := by decide +kernel
theorem dX2_paid_18 : decode cX2_paid 18 = .ok (.goto 9, 3) := by decide +kernel
theorem dX2_paid_21 : decode cX2_paid 21 = .ok (.aload_n 0, 1) := by decide +kernel
theorem dX2_paid_22 : decode cX2_paid 22 = .ok (.getfield 37, 3) := by decide +kernel
theorem dX2_paid_25 : decode cX2_paid 25 = .ok (.iload_n 1, 1) := by decide +kernel
theorem dX2_paid_26 : decode cX2_paid 26 = .ok (.iaload, 1) := by decide +kernel
theorem dX2_paid_27 : decode cX2_paid 27 = .ok (.ireturn, 1) := by decide +kernel
set_option maxRecDepth 20000 in
theorem ggX2_gains_X2_isNoLease : GoodIn wsX2_gains wsX2_isNoLease := goodIn_r _ [7, 8, 9, 10, 6, 11, 16, 17, 18, 19, 20, 21, 22, 23, 24, 25, 26, 27, 28] (by decide +kernel) (by decide +kernel)
set_option maxRecDepth 20000 in
theorem gX2_gains_X2_isNoLease : GoodIn wsX2_gains (wsV RX2 74 RX2 yX2_isNoLease wsX2_isNoLease) := goodIn_app (goodIn_of _ (by decide +kernel)) ggX2_gains_X2_isNoLease
set_option maxRecDepth 20000 in
theorem ggX2_gains_X2_fails : GoodIn wsX2_gains wsX2_fails := goodIn_r _ [15, 1, 16, 17, 18, 19, 20, 21, 22, 23, 24, 25, 26, 27, 28] (by decide +kernel) (by decide +kernel)
set_option maxRecDepth 20000 in
theorem gX2_gains_X2_fails : GoodIn wsX2_gains (wsV RX2 60 RX2 yX2_fails wsX2_fails) := goodIn_app (goodIn_of _ (by decide +kernel)) ggX2_gains_X2_fails
theorem dX2_gains_0 : decode cX2_gains 0 = .ok (.aload_n 0, 1) := by decide +kernel
theorem dX2_gains_1 : decode cX2_gains 1 = .ok (.iconst 0, 1) := by decide +kernel
theorem dX2_gains_2 : decode cX2_gains 2 = .ok (.putfield 43, 3) := by decide +kernel
theorem dX2_gains_5 : decode cX2_gains 5 = .ok (.aload_n 0, 1) := by decide +kernel
theorem dX2_gains_6 : decode cX2_gains 6 = .ok (.iload_n 1, 1) := by decide +kernel
theorem dX2_gains_7 : decode cX2_gains 7 = .ok (.invokevirtual 74, 3) := by decide +kernel
theorem dX2_gains_10 : decode cX2_gains 10 = .ok (.ifCond .eq 11, 3) := by decide +kernel
theorem dX2_gains_13 : decode cX2_gains 13 = .ok (.aload_n 0, 1) := by decide +kernel
theorem dX2_gains_14 : decode cX2_gains 14 = .ok (.iconst 1, 1) := by decide +kernel
theorem dX2_gains_15 : decode cX2_gains 15 = .ok (.invokevirtual 60, 3) := by decide +kernel
theorem dX2_gains_18 : decode cX2_gains 18 = .ok (.goto 9, 3) := by decide +kernel
theorem dX2_gains_21 : decode cX2_gains 21 = .ok (.aload_n 0, 1) := by decide +kernel
theorem dX2_gains_22 : decode cX2_gains 22 = .ok (.getfield 40, 3) := by decide +kernel
theorem dX2_gains_25 : decode cX2_gains 25 = .ok (.iload_n 1, 1) := by decide +kernel
theorem dX2_gains_26 : decode cX2_gains 26 = .ok (.iaload, 1) := by decide +kernel
theorem dX2_gains_27 : decode cX2_gains 27 = .ok (.ireturn, 1) := by decide +kernel
set_option maxRecDepth 20000 in
theorem ggX2_rateFor_X2_isNoLease : GoodIn wsX2_rateFor wsX2_isNoLease := goodIn_r _ [8, 9, 10, 11, 7, 12, 24, 25, 26, 27, 28, 29, 30, 31, 32, 33, 34, 35, 36] (by decide +kernel) (by decide +kernel)
set_option maxRecDepth 20000 in
theorem gX2_rateFor_X2_isNoLease : GoodIn wsX2_rateFor (wsV RX2 74 RX2 yX2_isNoLease wsX2_isNoLease) := goodIn_app (goodIn_of _ (by decide +kernel)) ggX2_rateFor_X2_isNoLease
set_option maxRecDepth 20000 in
theorem ggX2_rateFor_X2_fails : GoodIn wsX2_rateFor wsX2_fails := goodIn_r _ [16, 1, 24, 25, 26, 27, 28, 29, 30, 31, 32, 33, 34, 35, 36] (by decide +kernel) (by decide +kernel)
set_option maxRecDepth 20000 in
theorem gX2_rateFor_X2_fails : GoodIn wsX2_rateFor (wsV RX2 60 RX2 yX2_fails wsX2_fails) := goodIn_app (goodIn_of _ (by decide +kernel)) ggX2_rateFor_X2_fails
set_option maxRecDepth 20000 in
theorem ggX2_rateFor_X2_in : GoodIn wsX2_rateFor wsX2_in := goodIn_r _ [12] (by decide +kernel) (by decide +kernel)
set_option maxRecDepth 20000 in
theorem gX2_rateFor_X2_in : GoodIn wsX2_rateFor (va_wsS RX2 50 yX2_in wsX2_in) := goodIn_app (goodIn_of _ (by decide +kernel)) ggX2_rateFor_X2_in
set_option maxRecDepth 20000 in
theorem ggX2_rateFor_X2_worth : GoodIn wsX2_rateFor wsX2_worth := goodIn_r _ [20, 21, 22, 23, 24, 25, 26, 27, 28, 29, 30, 31, 32, 33, 34, 35, 36] (by decide +kernel) (by decide +kernel)
set_option maxRecDepth 20000 in
theorem gX2_rateFor_X2_worth : GoodIn wsX2_rateFor (wsV RX2 56 RX2 yX2_worth wsX2_worth) := goodIn_app (goodIn_of _ (by decide +kernel)) ggX2_rateFor_X2_worth
theorem dX2_rateFor_0 : decode cX2_rateFor 0 = .ok (.aload_n 0, 1) := by decide +kernel
theorem dX2_rateFor_1 : decode cX2_rateFor 1 = .ok (.iconst 0, 1) := by decide +kernel
theorem dX2_rateFor_2 : decode cX2_rateFor 2 = .ok (.putfield 43, 3) := by decide +kernel
theorem dX2_rateFor_5 : decode cX2_rateFor 5 = .ok (.aload_n 0, 1) := by decide +kernel
theorem dX2_rateFor_6 : decode cX2_rateFor 6 = .ok (.iload_n 1, 1) := by decide +kernel
theorem dX2_rateFor_7 : decode cX2_rateFor 7 = .ok (.invokevirtual 74, 3) := by decide +kernel
theorem dX2_rateFor_10 : decode cX2_rateFor 10 = .ok (.ifCond .eq 9, 3) := by decide +kernel
theorem dX2_rateFor_13 : decode cX2_rateFor 13 = .ok (.aload_n 0, 1) := by decide +kernel
theorem dX2_rateFor_14 : decode cX2_rateFor 14 = .ok (.iconst 1, 1) := by decide +kernel
theorem dX2_rateFor_15 : decode cX2_rateFor 15 = .ok (.invokevirtual 60, 3) := by decide +kernel
theorem dX2_rateFor_18 : decode cX2_rateFor 18 = .ok (.ireturn, 1) := by decide +kernel
theorem dX2_rateFor_19 : decode cX2_rateFor 19 = .ok (.iload_n 2, 1) := by decide +kernel
theorem dX2_rateFor_20 : decode cX2_rateFor 20 = .ok (.iconst 0, 1) := by decide +kernel
theorem dX2_rateFor_21 : decode cX2_rateFor 21 = .ok (.ldc 87, 2) := by decide +kernel
theorem dX2_rateFor_23 : decode cX2_rateFor 23 = .ok (.invokestatic 50, 3) := by decide +kernel
theorem dX2_rateFor_26 : decode cX2_rateFor 26 = .ok (.ifCond .ne 9, 3) := by decide +kernel
theorem dX2_rateFor_29 : decode cX2_rateFor 29 = .ok (.aload_n 0, 1) := by decide +kernel
theorem dX2_rateFor_30 : decode cX2_rateFor 30 = .ok (.iconst 2, 1) := by decide +kernel
theorem dX2_rateFor_31 : decode cX2_rateFor 31 = .ok (.invokevirtual 60, 3) := by decide +kernel
theorem dX2_rateFor_34 : decode cX2_rateFor 34 = .ok (.ireturn, 1) := by decide +kernel
theorem dX2_rateFor_35 : decode cX2_rateFor 35 = .ok (.iconst 0, 1) := by decide +kernel
theorem dX2_rateFor_36 : decode cX2_rateFor 36 = .ok (.istore_n 3, 1) := by decide +kernel
theorem dX2_rateFor_37 : decode cX2_rateFor 37 = .ok (.sipush 20001, 3) := by decide +kernel
theorem dX2_rateFor_40 : decode cX2_rateFor 40 = .ok (.istore 4, 2) := by decide +kernel
theorem dX2_rateFor_42 : decode cX2_rateFor 42 = .ok (.iload_n 3, 1) := by decide +kernel
theorem dX2_rateFor_43 : decode cX2_rateFor 43 = .ok (.iload 4, 2) := by decide +kernel
theorem dX2_rateFor_45 : decode cX2_rateFor 45 = .ok (.if_icmp .ge 51, 3) := by decide +kernel
theorem dX2_rateFor_48 : decode cX2_rateFor 48 = .ok (.iload_n 3, 1) := by decide +kernel
theorem dX2_rateFor_49 : decode cX2_rateFor 49 = .ok (.iload 4, 2) := by decide +kernel
theorem dX2_rateFor_51 : decode cX2_rateFor 51 = .ok (.iadd, 1) := by decide +kernel
theorem dX2_rateFor_52 : decode cX2_rateFor 52 = .ok (.iconst 2, 1) := by decide +kernel
theorem dX2_rateFor_53 : decode cX2_rateFor 53 = .ok (.idiv, 1) := by decide +kernel
theorem dX2_rateFor_54 : decode cX2_rateFor 54 = .ok (.istore 5, 2) := by decide +kernel
theorem dX2_rateFor_56 : decode cX2_rateFor 56 = .ok (.iload 5, 2) := by decide +kernel
theorem dX2_rateFor_58 : decode cX2_rateFor 58 = .ok (.sipush 20001, 3) := by decide +kernel
theorem dX2_rateFor_61 : decode cX2_rateFor 61 = .ok (.if_icmp .eq 20, 3) := by decide +kernel
theorem dX2_rateFor_64 : decode cX2_rateFor 64 = .ok (.aload_n 0, 1) := by decide +kernel
theorem dX2_rateFor_65 : decode cX2_rateFor 65 = .ok (.iload_n 1, 1) := by decide +kernel
theorem dX2_rateFor_66 : decode cX2_rateFor 66 = .ok (.aload_n 0, 1) := by decide +kernel
theorem dX2_rateFor_67 : decode cX2_rateFor 67 = .ok (.getfield 16, 3) := by decide +kernel
theorem dX2_rateFor_70 : decode cX2_rateFor 70 = .ok (.iload_n 1, 1) := by decide +kernel
theorem dX2_rateFor_71 : decode cX2_rateFor 71 = .ok (.iaload, 1) := by decide +kernel
theorem dX2_rateFor_72 : decode cX2_rateFor 72 = .ok (.iload 5, 2) := by decide +kernel
theorem dX2_rateFor_74 : decode cX2_rateFor 74 = .ok (.invokevirtual 56, 3) := by decide +kernel
theorem dX2_rateFor_77 : decode cX2_rateFor 77 = .ok (.iload_n 2, 1) := by decide +kernel
theorem dX2_rateFor_78 : decode cX2_rateFor 78 = .ok (.if_icmp .gt 10, 3) := by decide +kernel
theorem dX2_rateFor_81 : decode cX2_rateFor 81 = .ok (.iload 5, 2) := by decide +kernel
theorem dX2_rateFor_83 : decode cX2_rateFor 83 = .ok (.istore 4, 2) := by decide +kernel
theorem dX2_rateFor_85 : decode cX2_rateFor 85 = .ok (.goto 8, 3) := by decide +kernel
theorem dX2_rateFor_88 : decode cX2_rateFor 88 = .ok (.iload 5, 2) := by decide +kernel
theorem dX2_rateFor_90 : decode cX2_rateFor 90 = .ok (.iconst 1, 1) := by decide +kernel
theorem dX2_rateFor_91 : decode cX2_rateFor 91 = .ok (.iadd, 1) := by decide +kernel
theorem dX2_rateFor_92 : decode cX2_rateFor 92 = .ok (.istore_n 3, 1) := by decide +kernel
theorem dX2_rateFor_93 : decode cX2_rateFor 93 = .ok (.goto (-51), 3) := by decide +kernel
theorem dX2_rateFor_96 : decode cX2_rateFor 96 = .ok (.iload_n 3, 1) := by decide +kernel
theorem dX2_rateFor_97 : decode cX2_rateFor 97 = .ok (.sipush 20000, 3) := by decide +kernel
theorem dX2_rateFor_100 : decode cX2_rateFor 100 = .ok (.if_icmp .le 7, 3) := by decide +kernel
theorem dX2_rateFor_103 : decode cX2_rateFor 103 = .ok (.iconst (-1), 1) := by decide +kernel
theorem dX2_rateFor_104 : decode cX2_rateFor 104 = .ok (.goto 4, 3) := by decide +kernel
theorem dX2_rateFor_107 : decode cX2_rateFor 107 = .ok (.iload_n 3, 1) := by decide +kernel
theorem dX2_rateFor_108 : decode cX2_rateFor 108 = .ok (.ireturn, 1) := by decide +kernel
set_option maxRecDepth 20000 in
theorem ggX2_saleGain_X2_isNoLease : GoodIn wsX2_saleGain wsX2_isNoLease := goodIn_r _ [8, 9, 10, 11, 7, 12, 17, 18, 19, 20, 21, 22, 23, 24, 25, 26, 27, 28, 29] (by decide +kernel) (by decide +kernel)
set_option maxRecDepth 20000 in
theorem gX2_saleGain_X2_isNoLease : GoodIn wsX2_saleGain (wsV RX2 74 RX2 yX2_isNoLease wsX2_isNoLease) := goodIn_app (goodIn_of _ (by decide +kernel)) ggX2_saleGain_X2_isNoLease
set_option maxRecDepth 20000 in
theorem ggX2_saleGain_X2_fails : GoodIn wsX2_saleGain wsX2_fails := goodIn_r _ [16, 1, 17, 18, 19, 20, 21, 22, 23, 24, 25, 26, 27, 28, 29] (by decide +kernel) (by decide +kernel)
set_option maxRecDepth 20000 in
theorem gX2_saleGain_X2_fails : GoodIn wsX2_saleGain (wsV RX2 60 RX2 yX2_fails wsX2_fails) := goodIn_app (goodIn_of _ (by decide +kernel)) ggX2_saleGain_X2_fails
set_option maxRecDepth 20000 in
theorem ggX2_saleGain_X2_in : GoodIn wsX2_saleGain wsX2_in := goodIn_r _ [12] (by decide +kernel) (by decide +kernel)
set_option maxRecDepth 20000 in
theorem gX2_saleGain_X2_in : GoodIn wsX2_saleGain (va_wsS RX2 50 yX2_in wsX2_in) := goodIn_app (goodIn_of _ (by decide +kernel)) ggX2_saleGain_X2_in
theorem dX2_saleGain_0 : decode cX2_saleGain 0 = .ok (.aload_n 0, 1) := by decide +kernel
theorem dX2_saleGain_1 : decode cX2_saleGain 1 = .ok (.iconst 0, 1) := by decide +kernel
theorem dX2_saleGain_2 : decode cX2_saleGain 2 = .ok (.putfield 43, 3) := by decide +kernel
theorem dX2_saleGain_5 : decode cX2_saleGain 5 = .ok (.aload_n 0, 1) := by decide +kernel
theorem dX2_saleGain_6 : decode cX2_saleGain 6 = .ok (.iload_n 1, 1) := by decide +kernel
theorem dX2_saleGain_7 : decode cX2_saleGain 7 = .ok (.invokevirtual 74, 3) := by decide +kernel
theorem dX2_saleGain_10 : decode cX2_saleGain 10 = .ok (.ifCond .eq 9, 3) := by decide +kernel
theorem dX2_saleGain_13 : decode cX2_saleGain 13 = .ok (.aload_n 0, 1) := by decide +kernel
theorem dX2_saleGain_14 : decode cX2_saleGain 14 = .ok (.iconst 1, 1) := by decide +kernel
theorem dX2_saleGain_15 : decode cX2_saleGain 15 = .ok (.invokevirtual 60, 3) := by decide +kernel
theorem dX2_saleGain_18 : decode cX2_saleGain 18 = .ok (.ireturn, 1) := by decide +kernel
theorem dX2_saleGain_19 : decode cX2_saleGain 19 = .ok (.iload_n 2, 1) := by decide +kernel
theorem dX2_saleGain_20 : decode cX2_saleGain 20 = .ok (.iconst 0, 1) := by decide +kernel
theorem dX2_saleGain_21 : decode cX2_saleGain 21 = .ok (.ldc 87, 2) := by decide +kernel
theorem dX2_saleGain_23 : decode cX2_saleGain 23 = .ok (.invokestatic 50, 3) := by decide +kernel
theorem dX2_saleGain_26 : decode cX2_saleGain 26 = .ok (.ifCond .eq 13, 3) := by decide +kernel
theorem dX2_saleGain_29 : decode cX2_saleGain 29 = .ok (.iload_n 3, 1) := by decide +kernel
theorem dX2_saleGain_30 : decode cX2_saleGain 30 = .ok (.iconst 1, 1) := by decide +kernel
theorem dX2_saleGain_31 : decode cX2_saleGain 31 = .ok (.ldc 87, 2) := by decide +kernel
theorem dX2_saleGain_33 : decode cX2_saleGain 33 = .ok (.invokestatic 50, 3) := by decide +kernel
theorem dX2_saleGain_36 : decode cX2_saleGain 36 = .ok (.ifCond .ne 9, 3) := by decide +kernel
theorem dX2_saleGain_39 : decode cX2_saleGain 39 = .ok (.aload_n 0, 1) := by decide +kernel
theorem dX2_saleGain_40 : decode cX2_saleGain 40 = .ok (.iconst 2, 1) := by decide +kernel
theorem dX2_saleGain_41 : decode cX2_saleGain 41 = .ok (.invokevirtual 60, 3) := by decide +kernel
theorem dX2_saleGain_44 : decode cX2_saleGain 44 = .ok (.ireturn, 1) := by decide +kernel
theorem dX2_saleGain_45 : decode cX2_saleGain 45 = .ok (.aload_n 0, 1) := by decide +kernel
theorem dX2_saleGain_46 : decode cX2_saleGain 46 = .ok (.getfield 25, 3) := by decide +kernel
theorem dX2_saleGain_49 : decode cX2_saleGain 49 = .ok (.iload_n 1, 1) := by decide +kernel
theorem dX2_saleGain_50 : decode cX2_saleGain 50 = .ok (.iaload, 1) := by decide +kernel
theorem dX2_saleGain_51 : decode cX2_saleGain 51 = .ok (.iload_n 3, 1) := by decide +kernel
theorem dX2_saleGain_52 : decode cX2_saleGain 52 = .ok (.if_icmp .lt 7, 3) := by decide +kernel
theorem dX2_saleGain_55 : decode cX2_saleGain 55 = .ok (.iconst 0, 1) := by decide +kernel
theorem dX2_saleGain_56 : decode cX2_saleGain 56 = .ok (.goto 21, 3) := by decide +kernel
theorem dX2_saleGain_59 : decode cX2_saleGain 59 = .ok (.iload_n 3, 1) := by decide +kernel
theorem dX2_saleGain_60 : decode cX2_saleGain 60 = .ok (.iload_n 2, 1) := by decide +kernel
theorem dX2_saleGain_61 : decode cX2_saleGain 61 = .ok (.isub, 1) := by decide +kernel
theorem dX2_saleGain_62 : decode cX2_saleGain 62 = .ok (.i2l, 1) := by decide +kernel
theorem dX2_saleGain_63 : decode cX2_saleGain 63 = .ok (.iload_n 3, 1) := by decide +kernel
theorem dX2_saleGain_64 : decode cX2_saleGain 64 = .ok (.aload_n 0, 1) := by decide +kernel
theorem dX2_saleGain_65 : decode cX2_saleGain 65 = .ok (.getfield 25, 3) := by decide +kernel
theorem dX2_saleGain_68 : decode cX2_saleGain 68 = .ok (.iload_n 1, 1) := by decide +kernel
theorem dX2_saleGain_69 : decode cX2_saleGain 69 = .ok (.iaload, 1) := by decide +kernel
theorem dX2_saleGain_70 : decode cX2_saleGain 70 = .ok (.isub, 1) := by decide +kernel
theorem dX2_saleGain_71 : decode cX2_saleGain 71 = .ok (.i2l, 1) := by decide +kernel
theorem dX2_saleGain_72 : decode cX2_saleGain 72 = .ok (.lmul, 1) := by decide +kernel
theorem dX2_saleGain_73 : decode cX2_saleGain 73 = .ok (.iload_n 3, 1) := by decide +kernel
theorem dX2_saleGain_74 : decode cX2_saleGain 74 = .ok (.i2l, 1) := by decide +kernel
theorem dX2_saleGain_75 : decode cX2_saleGain 75 = .ok (.ldiv, 1) := by decide +kernel
theorem dX2_saleGain_76 : decode cX2_saleGain 76 = .ok (.l2i, 1) := by decide +kernel
theorem dX2_saleGain_77 : decode cX2_saleGain 77 = .ok (.ireturn, 1) := by decide +kernel
theorem dJ9_max_7cf53_0 : decode cJ9_max_7cf53 0 = .ok (.iload_n 0, 1) := by decide +kernel
theorem dJ9_max_7cf53_1 : decode cJ9_max_7cf53 1 = .ok (.iload_n 1, 1) := by decide +kernel
theorem dJ9_max_7cf53_2 : decode cJ9_max_7cf53 2 = .ok (.if_icmp .lt 7, 3) := by decide +kernel
theorem dJ9_max_7cf53_5 : decode cJ9_max_7cf53 5 = .ok (.iload_n 0, 1) := by decide +kernel
theorem dJ9_max_7cf53_6 : decode cJ9_max_7cf53 6 = .ok (.goto 4, 3) := by decide +kernel
theorem dJ9_max_7cf53_9 : decode cJ9_max_7cf53 9 = .ok (.iload_n 1, 1) := by decide +kernel
theorem dJ9_max_7cf53_10 : decode cJ9_max_7cf53 10 = .ok (.ireturn, 1) := by decide +kernel
theorem dJ9_min_7cf53_0 : decode cJ9_min_7cf53 0 = .ok (.iload_n 0, 1) := by decide +kernel
theorem dJ9_min_7cf53_1 : decode cJ9_min_7cf53 1 = .ok (.iload_n 1, 1) := by decide +kernel
theorem dJ9_min_7cf53_2 : decode cJ9_min_7cf53 2 = .ok (.if_icmp .gt 7, 3) := by decide +kernel
theorem dJ9_min_7cf53_5 : decode cJ9_min_7cf53 5 = .ok (.iload_n 0, 1) := by decide +kernel
theorem dJ9_min_7cf53_6 : decode cJ9_min_7cf53 6 = .ok (.goto 4, 3) := by decide +kernel
theorem dJ9_min_7cf53_9 : decode cJ9_min_7cf53 9 = .ok (.iload_n 1, 1) := by decide +kernel
theorem dJ9_min_7cf53_10 : decode cJ9_min_7cf53 10 = .ok (.ireturn, 1) := by decide +kernel
