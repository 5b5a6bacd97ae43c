theorem dX1_init_0 : decode cX1_init 0 = .ok (.aload_n 0, 1) := by decide +kernel
theorem dX1_init_1 : decode cX1_init 1 = .ok (.invokespecial 1, 3) := by decide +kernel
theorem dX1_init_4 : decode cX1_init 4 = .ok (.aload_n 0, 1) := by decide +kernel
theorem dX1_init_5 : decode cX1_init 5 = .ok (.bipush 6, 2) := by decide +kernel
theorem dX1_init_7 : decode cX1_init 7 = .ok (.anewarray 9, 3) := by decide +kernel
theorem dX1_init_10 : decode cX1_init 10 = .ok (.putfield 11, 3) := by decide +kernel
theorem dX1_init_13 : decode cX1_init 13 = .ok (.aload_n 0, 1) := by decide +kernel
theorem dX1_init_14 : decode cX1_init 14 = .ok (.iconst 0, 1) := by decide +kernel
theorem dX1_init_15 : decode cX1_init 15 = .ok (.putfield 15, 3) := by decide +kernel
theorem dX1_init_18 : decode cX1_init 18 = .ok (.return_, 1) := by decide +kernel
set_option maxRecDepth 20000 in
theorem ggX1_add_X1_mustBeWithin : GoodIn wsX1_add wsX1_mustBeWithin := goodIn_ca (goodIn_r _ [11, 12, 13] (by decide +kernel) (by decide +kernel)) (goodIn_sub (fun _ h => List.mem_cons_of_mem _ (List.mem_append_right _ h)) (by decide +kernel))
set_option maxRecDepth 20000 in
theorem gX1_add_X1_mustBeWithin : GoodIn wsX1_add (va_wsS RX1 19 yX1_mustBeWithin wsX1_mustBeWithin) := goodIn_app (goodIn_of _ (by decide +kernel)) ggX1_add_X1_mustBeWithin
set_option maxRecDepth 20000 in
theorem ggX1_add_X0_init : GoodIn wsX1_add wsX0_init := goodIn_r _ [16, 17, 18, 19, 20, 21, 22, 23, 24, 25, 26, 27, 28, 29, 30, 31, 32, 33, 34, 35, 7, 36, 37, 38, 39, 40, 41, 42, 43, 44, 45, 46, 47, 48, 49, 50, 51, 52, 55, 56, 57, 58, 59, 60, 61, 62, 63, 64, 65] (by decide +kernel) (by decide +kernel)
set_option maxRecDepth 20000 in
theorem gX1_add_X0_init : GoodIn wsX1_add (wsX0_init) := ggX1_add_X0_init
theorem dX1_add_0 : decode cX1_add 0 = .ok (.iload_n 1, 1) := by decide +kernel
theorem dX1_add_1 : decode cX1_add 1 = .ok (.iconst 1, 1) := by decide +kernel
theorem dX1_add_2 : decode cX1_add 2 = .ok (.bipush 60, 2) := by decide +kernel
theorem dX1_add_4 : decode cX1_add 4 = .ok (.invokestatic 19, 3) := by decide +kernel
theorem dX1_add_7 : decode cX1_add 7 = .ok (.iload_n 2, 1) := by decide +kernel
theorem dX1_add_8 : decode cX1_add 8 = .ok (.iconst 1, 1) := by decide +kernel
theorem dX1_add_9 : decode cX1_add 9 = .ok (.sipush 10000, 3) := by decide +kernel
theorem dX1_add_12 : decode cX1_add 12 = .ok (.invokestatic 19, 3) := by decide +kernel
theorem dX1_add_15 : decode cX1_add 15 = .ok (.iload_n 3, 1) := by decide +kernel
theorem dX1_add_16 : decode cX1_add 16 = .ok (.iconst 0, 1) := by decide +kernel
theorem dX1_add_17 : decode cX1_add 17 = .ok (.bipush 12, 2) := by decide +kernel
theorem dX1_add_19 : decode cX1_add 19 = .ok (.invokestatic 19, 3) := by decide +kernel
theorem dX1_add_22 : decode cX1_add 22 = .ok (.iload 4, 2) := by decide +kernel
theorem dX1_add_24 : decode cX1_add 24 = .ok (.iconst 0, 1) := by decide +kernel
theorem dX1_add_25 : decode cX1_add 25 = .ok (.sipush 1000, 3) := by decide +kernel
theorem dX1_add_28 : decode cX1_add 28 = .ok (.invokestatic 19, 3) := by decide +kernel
theorem dX1_add_31 : decode cX1_add 31 = .ok (.iload 5, 2) := by decide +kernel
theorem dX1_add_33 : decode cX1_add 33 = .ok (.iconst 0, 1) := by decide +kernel
theorem dX1_add_34 : decode cX1_add 34 = .ok (.sipush 20000, 3) := by decide +kernel
theorem dX1_add_37 : decode cX1_add 37 = .ok (.invokestatic 19, 3) := by decide +kernel
theorem dX1_add_40 : decode cX1_add 40 = .ok (.iload 6, 2) := by decide +kernel
theorem dX1_add_42 : decode cX1_add 42 = .ok (.iconst 1, 1) := by decide +kernel
theorem dX1_add_43 : decode cX1_add 43 = .ok (.bipush 120, 2) := by decide +kernel
theorem dX1_add_45 : decode cX1_add 45 = .ok (.invokestatic 19, 3) := by decide +kernel
theorem dX1_add_48 : decode cX1_add 48 = .ok (.iload 7, 2) := by decide +kernel
theorem dX1_add_50 : decode cX1_add 50 = .ok (.iconst 0, 1) := by decide +kernel
theorem dX1_add_51 : decode cX1_add 51 = .ok (.sipush 10000, 3) := by decide +kernel
theorem dX1_add_54 : decode cX1_add 54 = .ok (.invokestatic 19, 3) := by decide +kernel
theorem dX1_add_57 : decode cX1_add 57 = .ok (.aload_n 0, 1) := by decide +kernel
theorem dX1_add_58 : decode cX1_add 58 = .ok (.getfield 15, 3) := by decide +kernel
theorem dX1_add_61 : decode cX1_add 61 = .ok (.istore 8, 2) := by decide +kernel
theorem dX1_add_63 : decode cX1_add 63 = .ok (.iload 8, 2) := by decide +kernel
theorem dX1_add_65 : decode cX1_add 65 = .ok (.ifCond .lt 13, 3) := by decide +kernel
theorem dX1_add_68 : decode cX1_add 68 = .ok (.iload 8, 2) := by decide +kernel
theorem dX1_add_70 : decode cX1_add 70 = .ok (.aload_n 0, 1) := by decide +kernel
theorem dX1_add_71 : decode cX1_add 71 = .ok (.getfield 11, 3) := by decide +kernel
theorem dX1_add_74 : decode cX1_add 74 = .ok (.arraylength, 1) := by decide +kernel
theorem dX1_add_75 : decode cX1_add 75 = .ok (.if_icmp .lt 13, 3) := by decide +kernel
theorem dX1_add_78 : decode cX1_add 78 = .ok (.new 23, 3) := by decide +kernel
theorem dX1_add_81 : decode cX1_add 81 = .ok (.dup, 1) := by decide +kernel
theorem dX1_add_82 : decode cX1_add 82 = .ok (.ldc 25, 2) := by decide +kernel
theorem dX1_add_84 : decode cX1_add 84 = .ok (.invokespecial 27, 3) := by decide +kernel
theorem dX1_add_87 : decode cX1_add 87 = .ok (.athrow, 1) := by decide +kernel
theorem dX1_add_88 : decode cX1_add 88 = .ok (.aload_n 0, 1) := by decide +kernel
theorem dX1_add_89 : decode cX1_add 89 = .ok (.getfield 11, 3) := by decide +kernel
theorem dX1_add_92 : decode cX1_add 92 = .ok (.iload 8, 2) := by decide +kernel
theorem dX1_add_94 : decode cX1_add 94 = .ok (.new 9, 3) := by decide +kernel
theorem dX1_add_97 : decode cX1_add 97 = .ok (.dup, 1) := by decide +kernel
theorem dX1_add_98 : decode cX1_add 98 = .ok (.iload_n 1, 1) := by decide +kernel
theorem dX1_add_99 : decode cX1_add 99 = .ok (.iload_n 2, 1) := by decide +kernel
theorem dX1_add_100 : decode cX1_add 100 = .ok (.iload_n 3, 1) := by decide +kernel
theorem dX1_add_101 : decode cX1_add 101 = .ok (.iload 4, 2) := by decide +kernel
theorem dX1_add_103 : decode cX1_add 103 = .ok (.iload 5, 2) := by decide +kernel
theorem dX1_add_105 : decode cX1_add 105 = .ok (.iload 6, 2) := by decide +kernel
theorem dX1_add_107 : decode cX1_add 107 = .ok (.iload 7, 2) := by decide +kernel
theorem dX1_add_109 : decode cX1_add 109 = .ok (.invokespecial 30, 3) := by decide +kernel
theorem dX1_add_112 : decode cX1_add 112 = .ok (.aastore, 1) := by decide +kernel
theorem dX1_add_113 : decode cX1_add 113 = .ok (.aload_n 0, 1) := by decide +kernel
theorem dX1_add_114 : decode cX1_add 114 = .ok (.iload 8, 2) := by decide +kernel
theorem dX1_add_116 : decode cX1_add 116 = .ok (.iconst 1, 1) := by decide +kernel
theorem dX1_add_117 : decode cX1_add 117 = .ok (.iadd, 1) := by decide +kernel
theorem dX1_add_118 : decode cX1_add 118 = .ok (.putfield 15, 3) := by decide +kernel
theorem dX1_add_121 : decode cX1_add 121 = .ok (.iload 8, 2) := by decide +kernel
theorem dX1_add_123 : decode cX1_add 123 = .ok (.ireturn, 1) := by decide +kernel
set_option maxRecDepth 20000 in
theorem ggX1_pass_X1_mustBeWithin : GoodIn wsX1_pass wsX1_mustBeWithin := goodIn_ca (goodIn_r _ [5, 6, 7] (by decide +kernel) (by decide +kernel)) (goodIn_sub (fun _ h => List.mem_cons_of_mem _ (List.mem_append_right _ h)) (by decide +kernel))
set_option maxRecDepth 20000 in
theorem gX1_pass_X1_mustBeWithin : GoodIn wsX1_pass (va_wsS RX1 19 yX1_mustBeWithin wsX1_mustBeWithin) := goodIn_app (goodIn_of _ (by decide +kernel)) ggX1_pass_X1_mustBeWithin
set_option maxRecDepth 20000 in
theorem ggX1_pass_X0_endsWithin : GoodIn wsX1_pass wsX0_endsWithin := goodIn_r _ [12, 13, 14, 15, 16, 17, 18, 19, 11, 20, 21, 22, 23, 24, 25, 26, 27, 28, 29, 30, 31, 32, 33, 34, 35, 36, 39, 40, 41, 42, 43, 44, 45, 46, 47, 48, 49] (by decide +kernel) (by decide +kernel)
set_option maxRecDepth 20000 in
theorem gX1_pass_X0_endsWithin : GoodIn wsX1_pass (wsV RX1 33 RX0 yX0_endsWithin wsX0_endsWithin) := goodIn_app (goodIn_of _ (by decide +kernel)) ggX1_pass_X0_endsWithin
theorem dX1_pass_0 : decode cX1_pass 0 = .ok (.iload_n 1, 1) := by decide +kernel
theorem dX1_pass_1 : decode cX1_pass 1 = .ok (.iconst 1, 1) := by decide +kernel
theorem dX1_pass_2 : decode cX1_pass 2 = .ok (.bipush 24, 2) := by decide +kernel
theorem dX1_pass_4 : decode cX1_pass 4 = .ok (.invokestatic 19, 3) := by decide +kernel
theorem dX1_pass_7 : decode cX1_pass 7 = .ok (.iconst 0, 1) := by decide +kernel
theorem dX1_pass_8 : decode cX1_pass 8 = .ok (.istore_n 2, 1) := by decide +kernel
theorem dX1_pass_9 : decode cX1_pass 9 = .ok (.aload_n 0, 1) := by decide +kernel
theorem dX1_pass_10 : decode cX1_pass 10 = .ok (.getfield 11, 3) := by decide +kernel
theorem dX1_pass_13 : decode cX1_pass 13 = .ok (.astore_n 3, 1) := by decide +kernel
theorem dX1_pass_14 : decode cX1_pass 14 = .ok (.aload_n 3, 1) := by decide +kernel
theorem dX1_pass_15 : decode cX1_pass 15 = .ok (.arraylength, 1) := by decide +kernel
theorem dX1_pass_16 : decode cX1_pass 16 = .ok (.istore 4, 2) := by decide +kernel
theorem dX1_pass_18 : decode cX1_pass 18 = .ok (.iconst 0, 1) := by decide +kernel
theorem dX1_pass_19 : decode cX1_pass 19 = .ok (.istore 5, 2) := by decide +kernel
theorem dX1_pass_21 : decode cX1_pass 21 = .ok (.iload 5, 2) := by decide +kernel
theorem dX1_pass_23 : decode cX1_pass 23 = .ok (.iload 4, 2) := by decide +kernel
theorem dX1_pass_25 : decode cX1_pass 25 = .ok (.if_icmp .ge 32, 3) := by decide +kernel
theorem dX1_pass_28 : decode cX1_pass 28 = .ok (.aload_n 3, 1) := by decide +kernel
theorem dX1_pass_29 : decode cX1_pass 29 = .ok (.iload 5, 2) := by decide +kernel
theorem dX1_pass_31 : decode cX1_pass 31 = .ok (.aaload, 1) := by decide +kernel
theorem dX1_pass_32 : decode cX1_pass 32 = .ok (.astore 6, 2) := by decide +kernel
theorem dX1_pass_34 : decode cX1_pass 34 = .ok (.aload 6, 2) := by decide +kernel
theorem dX1_pass_36 : decode cX1_pass 36 = .ok (.ifnull 15, 3) := by decide +kernel
theorem dX1_pass_39 : decode cX1_pass 39 = .ok (.aload 6, 2) := by decide +kernel
theorem dX1_pass_41 : decode cX1_pass 41 = .ok (.iload_n 1, 1) := by decide +kernel
theorem dX1_pass_42 : decode cX1_pass 42 = .ok (.invokevirtual 33, 3) := by decide +kernel
theorem dX1_pass_45 : decode cX1_pass 45 = .ok (.ifCond .eq 6, 3) := by decide +kernel
theorem dX1_pass_48 : decode cX1_pass 48 = .ok (.iinc 2 1, 3) := by decide +kernel
theorem dX1_pass_51 : decode cX1_pass 51 = .ok (.iinc 5 1, 3) := by decide +kernel
theorem dX1_pass_54 : decode cX1_pass 54 = .ok (.goto (-33), 3) := by decide +kernel
theorem dX1_pass_57 : decode cX1_pass 57 = .ok (.iload_n 2, 1) := by decide +kernel
theorem dX1_pass_58 : decode cX1_pass 58 = .ok (.ireturn, 1) := by decide +kernel
set_option maxRecDepth 20000 in
theorem ggX1_review_X1_leaseOf : GoodIn wsX1_review wsX1_leaseOf := goodIn_ca (goodIn_r _ [7, 8, 9, 10, 70, 71] (by decide +kernel) (by decide +kernel)) (goodIn_sub (fun _ h => List.mem_cons_of_mem _ (List.mem_append_left _ (List.mem_append_right _ h))) (by decide +kernel))
set_option maxRecDepth 20000 in
theorem gX1_review_X1_leaseOf : GoodIn wsX1_review (wsV RX1 37 RX1 yX1_leaseOf wsX1_leaseOf) := goodIn_app (goodIn_of _ (by decide +kernel)) ggX1_review_X1_leaseOf
set_option maxRecDepth 20000 in
theorem ggX1_review_X1_mustBeWithin : GoodIn wsX1_review wsX1_mustBeWithin := goodIn_ca (goodIn_r _ [13, 14, 15] (by decide +kernel) (by decide +kernel)) (goodIn_sub (fun _ h => List.mem_cons_of_mem _ (List.mem_append_right _ h)) (by decide +kernel))
set_option maxRecDepth 20000 in
theorem gX1_review_X1_mustBeWithin : GoodIn wsX1_review (va_wsS RX1 19 yX1_mustBeWithin wsX1_mustBeWithin) := goodIn_app (goodIn_of _ (by decide +kernel)) ggX1_review_X1_mustBeWithin
set_option maxRecDepth 20000 in
theorem ggX1_review_X1_mustGoOn : GoodIn wsX1_review wsX1_mustGoOn := goodIn_ca (goodIn_r _ [18, 1, 2, 19, 20, 21, 22, 23, 24, 25, 72, 73, 74, 75, 76, 77, 78, 79, 80, 81, 82] (by decide +kernel) (by decide +kernel)) (goodIn_sub (fun _ h => List.mem_cons_of_mem _ (List.mem_append_left _ (List.mem_append_left _ (List.mem_append_right _ h)))) (by decide +kernel))
set_option maxRecDepth 20000 in
theorem gX1_review_X1_mustGoOn : GoodIn wsX1_review (va_wsS RX1 41 yX1_mustGoOn wsX1_mustGoOn) := goodIn_app (goodIn_of _ (by decide +kernel)) ggX1_review_X1_mustGoOn
set_option maxRecDepth 20000 in
theorem ggX1_review_X0_wouldPassTheMost : GoodIn wsX1_review wsX0_wouldPassTheMost := goodIn_r _ [29, 25, 24, 30, 31, 32, 33, 22, 34, 35, 36, 37, 38, 72, 73, 74, 75, 76, 77, 78, 79, 80, 81, 82] (by decide +kernel) (by decide +kernel)
set_option maxRecDepth 20000 in
theorem gX1_review_X0_wouldPassTheMost : GoodIn wsX1_review (wsV RX1 45 RX0 yX0_wouldPassTheMost wsX0_wouldPassTheMost) := goodIn_app (goodIn_of _ (by decide +kernel)) ggX1_review_X0_wouldPassTheMost
set_option maxRecDepth 20000 in
theorem ggX1_review_X0_reviewPayments : GoodIn wsX1_review wsX0_reviewPayments := goodIn_r _ [42, 43, 44, 45, 22, 46, 25, 24, 30, 32, 33, 34, 35, 36, 37, 38, 47, 48, 49, 50, 51, 52, 53, 54, 55, 56, 57, 58, 59, 60, 61, 62, 63, 64, 65, 66, 67, 68, 31, 72, 73, 74, 75, 76, 77, 78, 79, 80, 81, 82] (by decide +kernel) (by decide +kernel)
set_option maxRecDepth 20000 in
theorem gX1_review_X0_reviewPayments : GoodIn wsX1_review (wsV RX1 50 RX0 yX0_reviewPayments wsX0_reviewPayments) := goodIn_app (goodIn_of _ (by decide +kernel)) ggX1_review_X0_reviewPayments
set_option maxRecDepth 20000 in
theorem ggX1_review_X0_debtNow : GoodIn wsX1_review wsX0_debtNow := goodIn_r _ [59, 60, 25, 32, 33, 22, 34, 72, 73, 74, 75, 76, 77, 78, 79, 80, 81, 82] (by decide +kernel) (by decide +kernel)
set_option maxRecDepth 20000 in
theorem gX1_review_X0_debtNow : GoodIn wsX1_review (wsV RX1 54 RX0 yX0_debtNow wsX0_debtNow) := goodIn_app (goodIn_of _ (by decide +kernel)) ggX1_review_X0_debtNow
theorem dX1_review_0 : decode cX1_review 0 = .ok (.aload_n 0, 1) := by decide +kernel
theorem dX1_review_1 : decode cX1_review 1 = .ok (.iload_n 1, 1) := by decide +kernel
theorem dX1_review_2 : decode cX1_review 2 = .ok (.invokevirtual 37, 3) := by decide +kernel
theorem dX1_review_5 : decode cX1_review 5 = .ok (.astore_n 3, 1) := by decide +kernel
theorem dX1_review_6 : decode cX1_review 6 = .ok (.iload_n 2, 1) := by decide +kernel
theorem dX1_review_7 : decode cX1_review 7 = .ok (.bipush (-50), 2) := by decide +kernel
theorem dX1_review_9 : decode cX1_review 9 = .ok (.bipush 100, 2) := by decide +kernel
theorem dX1_review_11 : decode cX1_review 11 = .ok (.invokestatic 19, 3) := by decide +kernel
theorem dX1_review_14 : decode cX1_review 14 = .ok (.aload_n 3, 1) := by decide +kernel
theorem dX1_review_15 : decode cX1_review 15 = .ok (.invokestatic 41, 3) := by decide +kernel
theorem dX1_review_18 : decode cX1_review 18 = .ok (.aload_n 3, 1) := by decide +kernel
theorem dX1_review_19 : decode cX1_review 19 = .ok (.bipush 100, 2) := by decide +kernel
theorem dX1_review_21 : decode cX1_review 21 = .ok (.iload_n 2, 1) := by decide +kernel
theorem dX1_review_22 : decode cX1_review 22 = .ok (.iadd, 1) := by decide +kernel
theorem dX1_review_23 : decode cX1_review 23 = .ok (.invokevirtual 45, 3) := by decide +kernel
theorem dX1_review_26 : decode cX1_review 26 = .ok (.ifCond .eq 13, 3) := by decide +kernel
theorem dX1_review_29 : decode cX1_review 29 = .ok (.new 23, 3) := by decide +kernel
theorem dX1_review_32 : decode cX1_review 32 = .ok (.dup, 1) := by decide +kernel
theorem dX1_review_33 : decode cX1_review 33 = .ok (.ldc 48, 2) := by decide +kernel
theorem dX1_review_35 : decode cX1_review 35 = .ok (.invokespecial 27, 3) := by decide +kernel
theorem dX1_review_38 : decode cX1_review 38 = .ok (.athrow, 1) := by decide +kernel
theorem dX1_review_39 : decode cX1_review 39 = .ok (.aload_n 3, 1) := by decide +kernel
theorem dX1_review_40 : decode cX1_review 40 = .ok (.bipush 100, 2) := by decide +kernel
theorem dX1_review_42 : decode cX1_review 42 = .ok (.iload_n 2, 1) := by decide +kernel
theorem dX1_review_43 : decode cX1_review 43 = .ok (.iadd, 1) := by decide +kernel
theorem dX1_review_44 : decode cX1_review 44 = .ok (.invokevirtual 50, 3) := by decide +kernel
theorem dX1_review_47 : decode cX1_review 47 = .ok (.aload_n 3, 1) := by decide +kernel
theorem dX1_review_48 : decode cX1_review 48 = .ok (.invokevirtual 54, 3) := by decide +kernel
theorem dX1_review_51 : decode cX1_review 51 = .ok (.ireturn, 1) := by decide +kernel
set_option maxRecDepth 20000 in
theorem ggX1_lengthen_X1_leaseOf : GoodIn wsX1_lengthen wsX1_leaseOf := goodIn_ca (goodIn_r _ [7, 8, 9, 10, 66, 67] (by decide +kernel) (by decide +kernel)) (goodIn_sub (fun _ h => List.mem_cons_of_mem _ (List.mem_append_left _ (List.mem_append_right _ h))) (by decide +kernel))
set_option maxRecDepth 20000 in
theorem gX1_lengthen_X1_leaseOf : GoodIn wsX1_lengthen (wsV RX1 37 RX1 yX1_leaseOf wsX1_leaseOf) := goodIn_app (goodIn_of _ (by decide +kernel)) ggX1_lengthen_X1_leaseOf
set_option maxRecDepth 20000 in
theorem ggX1_lengthen_X1_mustBeWithin : GoodIn wsX1_lengthen wsX1_mustBeWithin := goodIn_ca (goodIn_r _ [13, 14, 15] (by decide +kernel) (by decide +kernel)) (goodIn_sub (fun _ h => List.mem_cons_of_mem _ (List.mem_append_right _ h)) (by decide +kernel))
set_option maxRecDepth 20000 in
theorem gX1_lengthen_X1_mustBeWithin : GoodIn wsX1_lengthen (va_wsS RX1 19 yX1_mustBeWithin wsX1_mustBeWithin) := goodIn_app (goodIn_of _ (by decide +kernel)) ggX1_lengthen_X1_mustBeWithin
set_option maxRecDepth 20000 in
theorem ggX1_lengthen_X1_mustGoOn : GoodIn wsX1_lengthen wsX1_mustGoOn := goodIn_ca (goodIn_r _ [18, 1, 2, 19, 20, 21, 22, 23, 24, 25, 68, 69, 70, 71, 72, 73, 74, 75, 76, 77, 78] (by decide +kernel) (by decide +kernel)) (goodIn_sub (fun _ h => List.mem_cons_of_mem _ (List.mem_append_left _ (List.mem_append_left _ (List.mem_append_right _ h)))) (by decide +kernel))
set_option maxRecDepth 20000 in
theorem gX1_lengthen_X1_mustGoOn : GoodIn wsX1_lengthen (va_wsS RX1 41 yX1_mustGoOn wsX1_mustGoOn) := goodIn_app (goodIn_of _ (by decide +kernel)) ggX1_lengthen_X1_mustGoOn
set_option maxRecDepth 20000 in
theorem ggX1_lengthen_X0_hasRoomFor : GoodIn wsX1_lengthen wsX0_hasRoomFor := goodIn_r _ [29, 24, 68, 69, 70, 71, 72, 73, 74, 75, 76, 77, 78] (by decide +kernel) (by decide +kernel)
set_option maxRecDepth 20000 in
theorem gX1_lengthen_X0_hasRoomFor : GoodIn wsX1_lengthen (wsV RX1 58 RX0 yX0_hasRoomFor wsX0_hasRoomFor) := goodIn_app (goodIn_of _ (by decide +kernel)) ggX1_lengthen_X0_hasRoomFor
set_option maxRecDepth 20000 in
theorem ggX1_lengthen_X0_putBehind : GoodIn wsX1_lengthen wsX0_putBehind := goodIn_r _ [33, 24, 34, 35, 36, 37, 38, 39, 40, 22, 41, 42, 43, 44, 45, 46, 47, 48, 49, 50, 51, 52, 25, 53, 54, 55, 56, 57, 58, 59, 60, 61, 62, 63, 64, 68, 69, 70, 71, 72, 73, 74, 75, 76, 77, 78] (by decide +kernel) (by decide +kernel)
set_option maxRecDepth 20000 in
theorem gX1_lengthen_X0_putBehind : GoodIn wsX1_lengthen (wsV RX1 63 RX0 yX0_putBehind wsX0_putBehind) := goodIn_app (goodIn_of _ (by decide +kernel)) ggX1_lengthen_X0_putBehind
set_option maxRecDepth 20000 in
theorem ggX1_lengthen_X0_debtNow : GoodIn wsX1_lengthen wsX0_debtNow := goodIn_r _ [51, 52, 25, 53, 54, 22, 55, 68, 69, 70, 71, 72, 73, 74, 75, 76, 77, 78] (by decide +kernel) (by decide +kernel)
set_option maxRecDepth 20000 in
theorem gX1_lengthen_X0_debtNow : GoodIn wsX1_lengthen (wsV RX1 54 RX0 yX0_debtNow wsX0_debtNow) := goodIn_app (goodIn_of _ (by decide +kernel)) ggX1_lengthen_X0_debtNow
theorem dX1_lengthen_0 : decode cX1_lengthen 0 = .ok (.aload_n 0, 1) := by decide +kernel
theorem dX1_lengthen_1 : decode cX1_lengthen 1 = .ok (.iload_n 1, 1) := by decide +kernel
theorem dX1_lengthen_2 : decode cX1_lengthen 2 = .ok (.invokevirtual 37, 3) := by decide +kernel
theorem dX1_lengthen_5 : decode cX1_lengthen 5 = .ok (.astore 4, 2) := by decide +kernel
theorem dX1_lengthen_7 : decode cX1_lengthen 7 = .ok (.iload_n 2, 1) := by decide +kernel
theorem dX1_lengthen_8 : decode cX1_lengthen 8 = .ok (.iconst 1, 1) := by decide +kernel
theorem dX1_lengthen_9 : decode cX1_lengthen 9 = .ok (.bipush 36, 2) := by decide +kernel
theorem dX1_lengthen_11 : decode cX1_lengthen 11 = .ok (.invokestatic 19, 3) := by decide +kernel
theorem dX1_lengthen_14 : decode cX1_lengthen 14 = .ok (.iload_n 3, 1) := by decide +kernel
theorem dX1_lengthen_15 : decode cX1_lengthen 15 = .ok (.iconst 0, 1) := by decide +kernel
theorem dX1_lengthen_16 : decode cX1_lengthen 16 = .ok (.sipush 10000, 3) := by decide +kernel
theorem dX1_lengthen_19 : decode cX1_lengthen 19 = .ok (.invokestatic 19, 3) := by decide +kernel
theorem dX1_lengthen_22 : decode cX1_lengthen 22 = .ok (.aload 4, 2) := by decide +kernel
theorem dX1_lengthen_24 : decode cX1_lengthen 24 = .ok (.invokestatic 41, 3) := by decide +kernel
theorem dX1_lengthen_27 : decode cX1_lengthen 27 = .ok (.aload 4, 2) := by decide +kernel
theorem dX1_lengthen_29 : decode cX1_lengthen 29 = .ok (.iload_n 2, 1) := by decide +kernel
theorem dX1_lengthen_30 : decode cX1_lengthen 30 = .ok (.invokevirtual 58, 3) := by decide +kernel
theorem dX1_lengthen_33 : decode cX1_lengthen 33 = .ok (.ifCond .ne 13, 3) := by decide +kernel
theorem dX1_lengthen_36 : decode cX1_lengthen 36 = .ok (.new 23, 3) := by decide +kernel
theorem dX1_lengthen_39 : decode cX1_lengthen 39 = .ok (.dup, 1) := by decide +kernel
theorem dX1_lengthen_40 : decode cX1_lengthen 40 = .ok (.ldc 61, 2) := by decide +kernel
theorem dX1_lengthen_42 : decode cX1_lengthen 42 = .ok (.invokespecial 27, 3) := by decide +kernel
theorem dX1_lengthen_45 : decode cX1_lengthen 45 = .ok (.athrow, 1) := by decide +kernel
theorem dX1_lengthen_46 : decode cX1_lengthen 46 = .ok (.aload 4, 2) := by decide +kernel
theorem dX1_lengthen_48 : decode cX1_lengthen 48 = .ok (.iload_n 2, 1) := by decide +kernel
theorem dX1_lengthen_49 : decode cX1_lengthen 49 = .ok (.iload_n 3, 1) := by decide +kernel
theorem dX1_lengthen_50 : decode cX1_lengthen 50 = .ok (.invokevirtual 63, 3) := by decide +kernel
theorem dX1_lengthen_53 : decode cX1_lengthen 53 = .ok (.aload 4, 2) := by decide +kernel
theorem dX1_lengthen_55 : decode cX1_lengthen 55 = .ok (.invokevirtual 54, 3) := by decide +kernel
theorem dX1_lengthen_58 : decode cX1_lengthen 58 = .ok (.ireturn, 1) := by decide +kernel
set_option maxRecDepth 20000 in
theorem ggX1_shorten_X1_leaseOf : GoodIn wsX1_shorten wsX1_leaseOf := goodIn_ca (goodIn_r _ [7, 8, 9, 10, 55, 56] (by decide +kernel) (by decide +kernel)) (goodIn_sub (fun _ h => List.mem_cons_of_mem _ (List.mem_append_left _ (List.mem_append_right _ h))) (by decide +kernel))
set_option maxRecDepth 20000 in
theorem gX1_shorten_X1_leaseOf : GoodIn wsX1_shorten (wsV RX1 37 RX1 yX1_leaseOf wsX1_leaseOf) := goodIn_app (goodIn_of _ (by decide +kernel)) ggX1_shorten_X1_leaseOf
set_option maxRecDepth 20000 in
theorem ggX1_shorten_X1_mustBeWithin : GoodIn wsX1_shorten wsX1_mustBeWithin := goodIn_ca (goodIn_r _ [13, 14, 15] (by decide +kernel) (by decide +kernel)) (goodIn_sub (fun _ h => List.mem_cons_of_mem _ (List.mem_append_right _ h)) (by decide +kernel))
set_option maxRecDepth 20000 in
theorem gX1_shorten_X1_mustBeWithin : GoodIn wsX1_shorten (va_wsS RX1 19 yX1_mustBeWithin wsX1_mustBeWithin) := goodIn_app (goodIn_of _ (by decide +kernel)) ggX1_shorten_X1_mustBeWithin
set_option maxRecDepth 20000 in
theorem ggX1_shorten_X0_monthsLeft : GoodIn wsX1_shorten wsX0_monthsLeft := goodIn_r _ [20, 21, 22, 57, 58, 59, 60, 61, 62, 63, 64, 65, 66, 67] (by decide +kernel) (by decide +kernel)
set_option maxRecDepth 20000 in
theorem gX1_shorten_X0_monthsLeft : GoodIn wsX1_shorten (wsV RX1 67 RX0 yX0_monthsLeft wsX0_monthsLeft) := goodIn_app (goodIn_of _ (by decide +kernel)) ggX1_shorten_X0_monthsLeft
set_option maxRecDepth 20000 in
theorem ggX1_shorten_X0_takeOffTheEnd : GoodIn wsX1_shorten wsX0_takeOffTheEnd := goodIn_r _ [26, 21, 27, 28, 17, 18, 19, 20, 22, 29, 30, 31, 32, 33, 34, 35, 36, 37, 38, 39, 40, 41, 42, 43, 44, 45, 46, 47, 48, 49, 50, 51, 52, 53, 54, 57, 58, 59, 60, 61, 62, 63, 64, 65, 66, 67] (by decide +kernel) (by decide +kernel)
set_option maxRecDepth 20000 in
theorem gX1_shorten_X0_takeOffTheEnd : GoodIn wsX1_shorten (wsV RX1 72 RX0 yX0_takeOffTheEnd wsX0_takeOffTheEnd) := goodIn_app (goodIn_of _ (by decide +kernel)) ggX1_shorten_X0_takeOffTheEnd
theorem dX1_shorten_0 : decode cX1_shorten 0 = .ok (.aload_n 0, 1) := by decide +kernel
theorem dX1_shorten_1 : decode cX1_shorten 1 = .ok (.iload_n 1, 1) := by decide +kernel
theorem dX1_shorten_2 : decode cX1_shorten 2 = .ok (.invokevirtual 37, 3) := by decide +kernel
theorem dX1_shorten_5 : decode cX1_shorten 5 = .ok (.astore_n 3, 1) := by decide +kernel
theorem dX1_shorten_6 : decode cX1_shorten 6 = .ok (.iload_n 2, 1) := by decide +kernel
theorem dX1_shorten_7 : decode cX1_shorten 7 = .ok (.iconst 1, 1) := by decide +kernel
theorem dX1_shorten_8 : decode cX1_shorten 8 = .ok (.bipush 60, 2) := by decide +kernel
theorem dX1_shorten_10 : decode cX1_shorten 10 = .ok (.invokestatic 19, 3) := by decide +kernel
theorem dX1_shorten_13 : decode cX1_shorten 13 = .ok (.aload_n 3, 1) := by decide +kernel
theorem dX1_shorten_14 : decode cX1_shorten 14 = .ok (.invokevirtual 67, 3) := by decide +kernel
theorem dX1_shorten_17 : decode cX1_shorten 17 = .ok (.iload_n 2, 1) := by decide +kernel
theorem dX1_shorten_18 : decode cX1_shorten 18 = .ok (.if_icmp .gt 13, 3) := by decide +kernel
theorem dX1_shorten_21 : decode cX1_shorten 21 = .ok (.new 23, 3) := by decide +kernel
theorem dX1_shorten_24 : decode cX1_shorten 24 = .ok (.dup, 1) := by decide +kernel
theorem dX1_shorten_25 : decode cX1_shorten 25 = .ok (.ldc 70, 2) := by decide +kernel
theorem dX1_shorten_27 : decode cX1_shorten 27 = .ok (.invokespecial 27, 3) := by decide +kernel
theorem dX1_shorten_30 : decode cX1_shorten 30 = .ok (.athrow, 1) := by decide +kernel
theorem dX1_shorten_31 : decode cX1_shorten 31 = .ok (.aload_n 3, 1) := by decide +kernel
theorem dX1_shorten_32 : decode cX1_shorten 32 = .ok (.iload_n 2, 1) := by decide +kernel
theorem dX1_shorten_33 : decode cX1_shorten 33 = .ok (.invokevirtual 72, 3) := by decide +kernel
theorem dX1_shorten_36 : decode cX1_shorten 36 = .ok (.ireturn, 1) := by decide +kernel
set_option maxRecDepth 20000 in
theorem ggX1_cut_X1_leaseOf : GoodIn wsX1_cut wsX1_leaseOf := goodIn_ca (goodIn_r _ [5, 6, 7, 8, 65, 66] (by decide +kernel) (by decide +kernel)) (goodIn_sub (fun _ h => List.mem_cons_of_mem _ (List.mem_append_left _ (List.mem_append_left _ (List.mem_append_right _ h)))) (by decide +kernel))
set_option maxRecDepth 20000 in
theorem gX1_cut_X1_leaseOf : GoodIn wsX1_cut (wsV RX1 37 RX1 yX1_leaseOf wsX1_leaseOf) := goodIn_app (goodIn_of _ (by decide +kernel)) ggX1_cut_X1_leaseOf
set_option maxRecDepth 20000 in
theorem ggX1_cut_X1_mustBeWithin : GoodIn wsX1_cut wsX1_mustBeWithin := goodIn_ca (goodIn_r _ [11, 12, 13] (by decide +kernel) (by decide +kernel)) (goodIn_sub (fun _ h => List.mem_cons_of_mem _ (List.mem_append_left _ (List.mem_append_right _ h))) (by decide +kernel))
set_option maxRecDepth 20000 in
theorem gX1_cut_X1_mustBeWithin : GoodIn wsX1_cut (va_wsS RX1 19 yX1_mustBeWithin wsX1_mustBeWithin) := goodIn_app (goodIn_of _ (by decide +kernel)) ggX1_cut_X1_mustBeWithin
set_option maxRecDepth 20000 in
theorem ggX1_cut_X1_mustGoOn : GoodIn wsX1_cut wsX1_mustGoOn := goodIn_ca (goodIn_r _ [16, 17, 18, 19, 20, 21, 22, 23, 24, 25, 67, 68, 69, 70, 71, 72, 73, 74, 75, 76, 77] (by decide +kernel) (by decide +kernel)) (goodIn_sub (fun _ h => List.mem_cons_of_mem _ (List.mem_append_right _ h)) (by decide +kernel))
set_option maxRecDepth 20000 in
theorem gX1_cut_X1_mustGoOn : GoodIn wsX1_cut (va_wsS RX1 41 yX1_mustGoOn wsX1_mustGoOn) := goodIn_app (goodIn_of _ (by decide +kernel)) ggX1_cut_X1_mustGoOn
set_option maxRecDepth 20000 in
theorem ggX1_cut_X0_keepPart : GoodIn wsX1_cut wsX0_keepPart := goodIn_r _ [29, 30, 31, 32, 33, 22, 34, 25, 24, 35, 36, 37, 38, 39, 40, 41, 42, 43, 44, 45, 46, 47, 48, 49, 50, 51, 52, 53, 54, 55, 56, 57, 58, 59, 60, 61, 62, 63, 64, 67, 68, 69, 70, 71, 72, 73, 74, 75, 76, 77] (by decide +kernel) (by decide +kernel)
set_option maxRecDepth 20000 in
theorem gX1_cut_X0_keepPart : GoodIn wsX1_cut (wsV RX1 76 RX0 yX0_keepPart wsX0_keepPart) := goodIn_app (goodIn_of _ (by decide +kernel)) ggX1_cut_X0_keepPart
theorem dX1_cut_0 : decode cX1_cut 0 = .ok (.aload_n 0, 1) := by decide +kernel
theorem dX1_cut_1 : decode cX1_cut 1 = .ok (.iload_n 1, 1) := by decide +kernel
theorem dX1_cut_2 : decode cX1_cut 2 = .ok (.invokevirtual 37, 3) := by decide +kernel
theorem dX1_cut_5 : decode cX1_cut 5 = .ok (.astore_n 3, 1) := by decide +kernel
theorem dX1_cut_6 : decode cX1_cut 6 = .ok (.iload_n 2, 1) := by decide +kernel
theorem dX1_cut_7 : decode cX1_cut 7 = .ok (.iconst 1, 1) := by decide +kernel
theorem dX1_cut_8 : decode cX1_cut 8 = .ok (.bipush 99, 2) := by decide +kernel
theorem dX1_cut_10 : decode cX1_cut 10 = .ok (.invokestatic 19, 3) := by decide +kernel
theorem dX1_cut_13 : decode cX1_cut 13 = .ok (.aload_n 3, 1) := by decide +kernel
theorem dX1_cut_14 : decode cX1_cut 14 = .ok (.invokestatic 41, 3) := by decide +kernel
theorem dX1_cut_17 : decode cX1_cut 17 = .ok (.aload_n 3, 1) := by decide +kernel
theorem dX1_cut_18 : decode cX1_cut 18 = .ok (.bipush 100, 2) := by decide +kernel
theorem dX1_cut_20 : decode cX1_cut 20 = .ok (.iload_n 2, 1) := by decide +kernel
theorem dX1_cut_21 : decode cX1_cut 21 = .ok (.isub, 1) := by decide +kernel
theorem dX1_cut_22 : decode cX1_cut 22 = .ok (.invokevirtual 76, 3) := by decide +kernel
theorem dX1_cut_25 : decode cX1_cut 25 = .ok (.ireturn, 1) := by decide +kernel
set_option maxRecDepth 20000 in
theorem ggX1_toCome_X1_leaseOf : GoodIn wsX1_toCome wsX1_leaseOf := goodIn_ca (goodIn_r _ [5, 6, 7, 8, 16, 17] (by decide +kernel) (by decide +kernel)) (goodIn_sub (fun _ h => List.mem_cons_of_mem _ (List.mem_append_right _ h)) (by decide +kernel))
set_option maxRecDepth 20000 in
theorem gX1_toCome_X1_leaseOf : GoodIn wsX1_toCome (wsV RX1 37 RX1 yX1_leaseOf wsX1_leaseOf) := goodIn_app (goodIn_of _ (by decide +kernel)) ggX1_toCome_X1_leaseOf
set_option maxRecDepth 20000 in
theorem ggX1_toCome_X0_monthsLeft : GoodIn wsX1_toCome wsX0_monthsLeft := goodIn_r _ [13, 14, 15, 18, 19, 20, 21, 22, 23, 24, 25, 26, 27, 28] (by decide +kernel) (by decide +kernel)
set_option maxRecDepth 20000 in
theorem gX1_toCome_X0_monthsLeft : GoodIn wsX1_toCome (wsV RX1 67 RX0 yX0_monthsLeft wsX0_monthsLeft) := goodIn_app (goodIn_of _ (by decide +kernel)) ggX1_toCome_X0_monthsLeft
theorem dX1_toCome_0 : decode cX1_toCome 0 = .ok (.aload_n 0, 1) := by decide +kernel
theorem dX1_toCome_1 : decode cX1_toCome 1 = .ok (.iload_n 1, 1) := by decide +kernel
theorem dX1_toCome_2 : decode cX1_toCome 2 = .ok (.invokevirtual 37, 3) := by decide +kernel
theorem dX1_toCome_5 : decode cX1_toCome 5 = .ok (.invokevirtual 67, 3) := by decide +kernel
theorem dX1_toCome_8 : decode cX1_toCome 8 = .ok (.ireturn, 1) := by decide +kernel
set_option maxRecDepth 20000 in
theorem ggX1_debt_X1_leaseOf : GoodIn wsX1_debt wsX1_leaseOf := goodIn_ca (goodIn_r _ [5, 6, 7, 8, 19, 20] (by decide +kernel) (by decide +kernel)) (goodIn_sub (fun _ h => List.mem_cons_of_mem _ (List.mem_append_right _ h)) (by decide +kernel))
set_option maxRecDepth 20000 in
theorem gX1_debt_X1_leaseOf : GoodIn wsX1_debt (wsV RX1 37 RX1 yX1_leaseOf wsX1_leaseOf) := goodIn_app (goodIn_of _ (by decide +kernel)) ggX1_debt_X1_leaseOf
set_option maxRecDepth 20000 in
theorem ggX1_debt_X0_debtNow : GoodIn wsX1_debt wsX0_debtNow := goodIn_r _ [13, 14, 15, 16, 17, 12, 18, 21, 22, 23, 24, 25, 26, 27, 28, 29, 30, 31] (by decide +kernel) (by decide +kernel)
set_option maxRecDepth 20000 in
theorem gX1_debt_X0_debtNow : GoodIn wsX1_debt (wsV RX1 54 RX0 yX0_debtNow wsX0_debtNow) := goodIn_app (goodIn_of _ (by decide +kernel)) ggX1_debt_X0_debtNow
theorem dX1_debt_0 : decode cX1_debt 0 = .ok (.aload_n 0, 1) := by decide +kernel
theorem dX1_debt_1 : decode cX1_debt 1 = .ok (.iload_n 1, 1) := by decide +kernel
theorem dX1_debt_2 : decode cX1_debt 2 = .ok (.invokevirtual 37, 3) := by decide +kernel
theorem dX1_debt_5 : decode cX1_debt 5 = .ok (.invokevirtual 54, 3) := by decide +kernel
theorem dX1_debt_8 : decode cX1_debt 8 = .ok (.ireturn, 1) := by decide +kernel
set_option maxRecDepth 20000 in
theorem ggX1_debtByWorth_X1_leaseOf : GoodIn wsX1_debtByWorth wsX1_leaseOf := goodIn_ca (goodIn_r _ [5, 6, 7, 8, 35, 36] (by decide +kernel) (by decide +kernel)) (goodIn_sub (fun _ h => List.mem_cons_of_mem _ (List.mem_append_right _ h)) (by decide +kernel))
set_option maxRecDepth 20000 in
theorem gX1_debtByWorth_X1_leaseOf : GoodIn wsX1_debtByWorth (wsV RX1 37 RX1 yX1_leaseOf wsX1_leaseOf) := goodIn_app (goodIn_of _ (by decide +kernel)) ggX1_debtByWorth_X1_leaseOf
set_option maxRecDepth 20000 in
theorem ggX1_debtByWorth_X0_worthAt : GoodIn wsX1_debtByWorth wsX0_worthAt := goodIn_r _ [13, 14, 15, 16, 17, 18, 12, 19, 20, 21, 22, 23, 24, 25, 26, 27, 28, 29, 30, 31, 32, 33, 34] (by decide +kernel) (by decide +kernel)
set_option maxRecDepth 20000 in
theorem gX1_debtByWorth_X0_worthAt : GoodIn wsX1_debtByWorth (wsV RX1 90 RX0 yX0_worthAt wsX0_worthAt) := goodIn_app (goodIn_of _ (by decide +kernel)) ggX1_debtByWorth_X0_worthAt
theorem dX1_debtByWorth_0 : decode cX1_debtByWorth 0 = .ok (.aload_n 0, 1) := by decide +kernel
theorem dX1_debtByWorth_1 : decode cX1_debtByWorth 1 = .ok (.iload_n 1, 1) := by decide +kernel
theorem dX1_debtByWorth_2 : decode cX1_debtByWorth 2 = .ok (.invokevirtual 37, 3) := by decide +kernel
theorem dX1_debtByWorth_5 : decode cX1_debtByWorth 5 = .ok (.astore_n 2, 1) := by decide +kernel
theorem dX1_debtByWorth_6 : decode cX1_debtByWorth 6 = .ok (.aload_n 2, 1) := by decide +kernel
theorem dX1_debtByWorth_7 : decode cX1_debtByWorth 7 = .ok (.aload_n 2, 1) := by decide +kernel
theorem dX1_debtByWorth_8 : decode cX1_debtByWorth 8 = .ok (.getfield 87, 3) := by decide +kernel
theorem dX1_debtByWorth_11 : decode cX1_debtByWorth 11 = .ok (.invokevirtual 90, 3) := by decide +kernel
theorem dX1_debtByWorth_14 : decode cX1_debtByWorth 14 = .ok (.l2i, 1) := by decide +kernel
theorem dX1_debtByWorth_15 : decode cX1_debtByWorth 15 = .ok (.ireturn, 1) := by decide +kernel
set_option maxRecDepth 20000 in
theorem ggX1_right_X1_leaseOf : GoodIn wsX1_right wsX1_leaseOf := goodIn_ca (goodIn_r _ [5, 6, 7, 8, 20, 21] (by decide +kernel) (by decide +kernel)) (goodIn_sub (fun _ h => List.mem_cons_of_mem _ (List.mem_append_right _ h)) (by decide +kernel))
set_option maxRecDepth 20000 in
theorem gX1_right_X1_leaseOf : GoodIn wsX1_right (wsV RX1 37 RX1 yX1_leaseOf wsX1_leaseOf) := goodIn_app (goodIn_of _ (by decide +kernel)) ggX1_right_X1_leaseOf
theorem dX1_right_0 : decode cX1_right 0 = .ok (.aload_n 0, 1) := by decide +kernel
theorem dX1_right_1 : decode cX1_right 1 = .ok (.iload_n 1, 1) := by decide +kernel
theorem dX1_right_2 : decode cX1_right 2 = .ok (.invokevirtual 37, 3) := by decide +kernel
theorem dX1_right_5 : decode cX1_right 5 = .ok (.getfield 94, 3) := by decide +kernel
theorem dX1_right_8 : decode cX1_right 8 = .ok (.l2i, 1) := by decide +kernel
theorem dX1_right_9 : decode cX1_right 9 = .ok (.ireturn, 1) := by decide +kernel
set_option maxRecDepth 20000 in
theorem ggX1_interest_X1_leaseOf : GoodIn wsX1_interest wsX1_leaseOf := goodIn_ca (goodIn_r _ [5, 6, 7, 8, 20, 21] (by decide +kernel) (by decide +kernel)) (goodIn_sub (fun _ h => List.mem_cons_of_mem _ (List.mem_append_right _ h)) (by decide +kernel))
set_option maxRecDepth 20000 in
theorem gX1_interest_X1_leaseOf : GoodIn wsX1_interest (wsV RX1 37 RX1 yX1_leaseOf wsX1_leaseOf) := goodIn_app (goodIn_of _ (by decide +kernel)) ggX1_interest_X1_leaseOf
theorem dX1_interest_0 : decode cX1_interest 0 = .ok (.aload_n 0, 1) := by decide +kernel
theorem dX1_interest_1 : decode cX1_interest 1 = .ok (.iload_n 1, 1) := by decide +kernel
theorem dX1_interest_2 : decode cX1_interest 2 = .ok (.invokevirtual 37, 3) := by decide +kernel
theorem dX1_interest_5 : decode cX1_interest 5 = .ok (.getfield 98, 3) := by decide +kernel
theorem dX1_interest_8 : decode cX1_interest 8 = .ok (.l2i, 1) := by decide +kernel
theorem dX1_interest_9 : decode cX1_interest 9 = .ok (.ireturn, 1) := by decide +kernel
set_option maxRecDepth 20000 in
theorem ggX1_written_X1_leaseOf : GoodIn wsX1_written wsX1_leaseOf := goodIn_ca (goodIn_r _ [5, 6, 7, 8, 20, 21] (by decide +kernel) (by decide +kernel)) (goodIn_sub (fun _ h => List.mem_cons_of_mem _ (List.mem_append_right _ h)) (by decide +kernel))
set_option maxRecDepth 20000 in
theorem gX1_written_X1_leaseOf : GoodIn wsX1_written (wsV RX1 37 RX1 yX1_leaseOf wsX1_leaseOf) := goodIn_app (goodIn_of _ (by decide +kernel)) ggX1_written_X1_leaseOf
theorem dX1_written_0 : decode cX1_written 0 = .ok (.aload_n 0, 1) := by decide +kernel
theorem dX1_written_1 : decode cX1_written 1 = .ok (.iload_n 1, 1) := by decide +kernel
theorem dX1_written_2 : decode cX1_written 2 = .ok (.invokevirtual 37, 3) := by decide +kernel
theorem dX1_written_5 : decode cX1_written 5 = .ok (.getfield 101, 3) := by decide +kernel
theorem dX1_written_8 : decode cX1_written 8 = .ok (.l2i, 1) := by decide +kernel
theorem dX1_written_9 : decode cX1_written 9 = .ok (.ireturn, 1) := by decide +kernel
set_option maxRecDepth 20000 in
theorem ggX1_paid_X1_leaseOf : GoodIn wsX1_paid wsX1_leaseOf := goodIn_ca (goodIn_r _ [5, 6, 7, 8, 20, 21] (by decide +kernel) (by decide +kernel)) (goodIn_sub (fun _ h => List.mem_cons_of_mem _ (List.mem_append_right _ h)) (by decide +kernel))
set_option maxRecDepth 20000 in
theorem gX1_paid_X1_leaseOf : GoodIn wsX1_paid (wsV RX1 37 RX1 yX1_leaseOf wsX1_leaseOf) := goodIn_app (goodIn_of _ (by decide +kernel)) ggX1_paid_X1_leaseOf
theorem dX1_paid_0 : decode cX1_paid 0 = .ok (.aload_n 0, 1) := by decide +kernel
theorem dX1_paid_1 : decode cX1_paid 1 = .ok (.iload_n 1, 1) := by decide +kernel
theorem dX1_paid_2 : decode cX1_paid 2 = .ok (.invokevirtual 37, 3) := by decide +kernel
theorem dX1_paid_5 : decode cX1_paid 5 = .ok (.getfield 104, 3) := by decide +kernel
theorem dX1_paid_8 : decode cX1_paid 8 = .ok (.l2i, 1) := by decide +kernel
theorem dX1_paid_9 : decode cX1_paid 9 = .ok (.ireturn, 1) := by decide +kernel
set_option maxRecDepth 20000 in
theorem ggX1_gains_X1_leaseOf : GoodIn wsX1_gains wsX1_leaseOf := goodIn_ca (goodIn_r _ [5, 6, 7, 8, 20, 21] (by decide +kernel) (by decide +kernel)) (goodIn_sub (fun _ h => List.mem_cons_of_mem _ (List.mem_append_right _ h)) (by decide +kernel))
set_option maxRecDepth 20000 in
theorem gX1_gains_X1_leaseOf : GoodIn wsX1_gains (wsV RX1 37 RX1 yX1_leaseOf wsX1_leaseOf) := goodIn_app (goodIn_of _ (by decide +kernel)) ggX1_gains_X1_leaseOf
theorem dX1_gains_0 : decode cX1_gains 0 = .ok (.aload_n 0, 1) := by decide +kernel
theorem dX1_gains_1 : decode cX1_gains 1 = .ok (.iload_n 1, 1) := by decide +kernel
theorem dX1_gains_2 : decode cX1_gains 2 = .ok (.invokevirtual 37, 3) := by decide +kernel
theorem dX1_gains_5 : decode cX1_gains 5 = .ok (.getfield 107, 3) := by decide +kernel
theorem dX1_gains_8 : decode cX1_gains 8 = .ok (.l2i, 1) := by decide +kernel
theorem dX1_gains_9 : decode cX1_gains 9 = .ok (.ireturn, 1) := by decide +kernel
theorem dX1_mustBeWithin_0 : decode cX1_mustBeWithin 0 = .ok (.iload_n 0, 1) := by decide +kernel
theorem dX1_mustBeWithin_1 : decode cX1_mustBeWithin 1 = .ok (.iload_n 1, 1) := by decide +kernel
theorem dX1_mustBeWithin_2 : decode cX1_mustBeWithin 2 = .ok (.if_icmp .lt 8, 3) := by decide +kernel
theorem dX1_mustBeWithin_5 : decode cX1_mustBeWithin 5 = .ok (.iload_n 0, 1) := by decide +kernel
theorem dX1_mustBeWithin_6 : decode cX1_mustBeWithin 6 = .ok (.iload_n 2, 1) := by decide +kernel
theorem dX1_mustBeWithin_7 : decode cX1_mustBeWithin 7 = .ok (.if_icmp .le 13, 3) := by decide +kernel
theorem dX1_mustBeWithin_10 : decode cX1_mustBeWithin 10 = .ok (.new 111, 3) := by decide +kernel
theorem dX1_mustBeWithin_13 : decode cX1_mustBeWithin 13 = .ok (.dup, 1) := by decide +kernel
theorem dX1_mustBeWithin_14 : decode cX1_mustBeWithin 14 = .ok (.ldc 113, 2) := by decide +kernel
theorem dX1_mustBeWithin_16 : decode cX1_mustBeWithin 16 = .ok (.invokespecial 115, 3) := by decide +kernel
theorem dX1_mustBeWithin_19 : decode cX1_mustBeWithin 19 = .ok (.athrow, 1) := by decide +kernel
theorem dX1_mustBeWithin_20 : decode cX1_mustBeWithin 20 = .ok (.return_, 1) := by decide +kernel
set_option maxRecDepth 20000 in
theorem ggX1_mustGoOn_X0_monthsLeft : GoodIn wsX1_mustGoOn wsX0_monthsLeft := goodIn_r _ [7, 8, 9, 10, 11, 12, 13, 14, 15, 16, 17, 18, 19, 20] (by decide +kernel) (by decide +kernel)
set_option maxRecDepth 20000 in
theorem gX1_mustGoOn_X0_monthsLeft : GoodIn wsX1_mustGoOn (wsV RX1 67 RX0 yX0_monthsLeft wsX0_monthsLeft) := goodIn_app (goodIn_of _ (by decide +kernel)) ggX1_mustGoOn_X0_monthsLeft
theorem dX1_mustGoOn_0 : decode cX1_mustGoOn 0 = .ok (.aload_n 0, 1) := by decide +kernel
theorem dX1_mustGoOn_1 : decode cX1_mustGoOn 1 = .ok (.invokevirtual 67, 3) := by decide +kernel
theorem dX1_mustGoOn_4 : decode cX1_mustGoOn 4 = .ok (.ifCond .ne 13, 3) := by decide +kernel
theorem dX1_mustGoOn_7 : decode cX1_mustGoOn 7 = .ok (.new 23, 3) := by decide +kernel
theorem dX1_mustGoOn_10 : decode cX1_mustGoOn 10 = .ok (.dup, 1) := by decide +kernel
theorem dX1_mustGoOn_11 : decode cX1_mustGoOn 11 = .ok (.ldc 116, 2) := by decide +kernel
theorem dX1_mustGoOn_13 : decode cX1_mustGoOn 13 = .ok (.invokespecial 27, 3) := by decide +kernel
theorem dX1_mustGoOn_16 : decode cX1_mustGoOn 16 = .ok (.athrow, 1) := by decide +kernel
theorem dX1_mustGoOn_17 : decode cX1_mustGoOn 17 = .ok (.return_, 1) := by decide +kernel
theorem dX1_leaseOf_0 : decode cX1_leaseOf 0 = .ok (.iload_n 1, 1) := by decide +kernel
theorem dX1_leaseOf_1 : decode cX1_leaseOf 1 = .ok (.ifCond .lt 12, 3) := by decide +kernel
theorem dX1_leaseOf_4 : decode cX1_leaseOf 4 = .ok (.iload_n 1, 1) := by decide +kernel
theorem dX1_leaseOf_5 : decode cX1_leaseOf 5 = .ok (.aload_n 0, 1) := by decide +kernel
theorem dX1_leaseOf_6 : decode cX1_leaseOf 6 = .ok (.getfield 11, 3) := by decide +kernel
theorem dX1_leaseOf_9 : decode cX1_leaseOf 9 = .ok (.arraylength, 1) := by decide +kernel
theorem dX1_leaseOf_10 : decode cX1_leaseOf 10 = .ok (.if_icmp .lt 13, 3) := by decide +kernel
theorem dX1_leaseOf_13 : decode cX1_leaseOf 13 = .ok (.new 79, 3) := by decide +kernel
theorem dX1_leaseOf_16 : decode cX1_leaseOf 16 = .ok (.dup, 1) := by decide +kernel
theorem dX1_leaseOf_17 : decode cX1_leaseOf 17 = .ok (.ldc 118, 2) := by decide +kernel
theorem dX1_leaseOf_19 : decode cX1_leaseOf 19 = .ok (.invokespecial 83, 3) := by decide +kernel
theorem dX1_leaseOf_22 : decode cX1_leaseOf 22 = .ok (.athrow, 1) := by decide +kernel
theorem dX1_leaseOf_23 : decode cX1_leaseOf 23 = .ok (.aload_n 0, 1) := by decide +kernel
theorem dX1_leaseOf_24 : decode cX1_leaseOf 24 = .ok (.getfield 11, 3) := by decide +kernel
theorem dX1_leaseOf_27 : decode cX1_leaseOf 27 = .ok (.iload_n 1, 1) := by decide +kernel
theorem dX1_leaseOf_28 : decode cX1_leaseOf 28 = .ok (.aaload, 1) := by decide +kernel
theorem dX1_leaseOf_29 : decode cX1_leaseOf 29 = .ok (.astore_n 2, 1) := by decide +kernel
theorem dX1_leaseOf_30 : decode cX1_leaseOf 30 = .ok (.aload_n 2, 1) := by decide +kernel
theorem dX1_leaseOf_31 : decode cX1_leaseOf 31 = .ok (.ifnonnull 13, 3) := by decide +kernel
theorem dX1_leaseOf_34 : decode cX1_leaseOf 34 = .ok (.new 79, 3) := by decide +kernel
theorem dX1_leaseOf_37 : decode cX1_leaseOf 37 = .ok (.dup, 1) := by decide +kernel
theorem dX1_leaseOf_38 : decode cX1_leaseOf 38 = .ok (.ldc 118, 2) := by decide +kernel
theorem dX1_leaseOf_40 : decode cX1_leaseOf 40 = .ok (.invokespecial 83, 3) := by decide +kernel
theorem dX1_leaseOf_43 : decode cX1_leaseOf 43 = .ok (.athrow, 1) := by decide +kernel
theorem dX1_leaseOf_44 : decode cX1_leaseOf 44 = .ok (.aload_n 2, 1) := by decide +kernel
theorem dX1_leaseOf_45 : decode cX1_leaseOf 45 = .ok (.areturn, 1) := by decide +kernel
theorem dJ9_max_7cf53_0 : decode cJ9_max_7cf53 0 = .ok (.iload_n 0, 1) := by decide +kernel
theorem dJ9_max_7cf53_1 : decode cJ9_max_7cf53 1 = .ok (.iload_n 1, 1) := by decide +kernel
theorem dJ9_max_7cf53_2 : decode cJ9_max_7cf53 2 = .ok (.if_icmp .lt 7, 3) := by decide +kernel
theorem dJ9_max_7cf53_5 : decode cJ9_max_7cf53 5 = .ok (.iload_n 0, 1) := by decide +kernel
theorem dJ9_max_7cf53_6 : decode cJ9_max_7cf53 6 = .ok (.goto 4, 3) := by decide +kernel
theorem dJ9_max_7cf53_9 : decode cJ9_max_7cf53 9 = .ok (.iload_n 1, 1) := by decide +kernel
theorem dJ9_max_7cf53_10 : decode cJ9_max_7cf53 10 = .ok (.ireturn, 1) := by decide +kernel
theorem dJ9_min_7cf53_0 : decode cJ9_min_7cf53 0 = .ok (.iload_n 0, 1) := by decide +kernel
theorem dJ9_min_7cf53_1 : decode cJ9_min_7cf53 1 = .ok (.iload_n 1, 1) := by decide +kernel
theorem dJ9_min_7cf53_2 : decode cJ9_min_7cf53 2 = .ok (.if_icmp .gt 7, 3) := by decide +kernel
theorem dJ9_min_7cf53_5 : decode cJ9_min_7cf53 5 = .ok (.iload_n 0, 1) := by decide +kernel
theorem dJ9_min_7cf53_6 : decode cJ9_min_7cf53 6 = .ok (.goto 4, 3) := by decide +kernel
theorem dJ9_min_7cf53_9 : decode cJ9_min_7cf53 9 = .ok (.iload_n 1, 1) := by decide +kernel
theorem dJ9_min_7cf53_10 : decode cJ9_min_7cf53 10 = .ok (.ireturn, 1) := by decide +kernel
theorem dL_cell_0 : decode cL_cell 0 = .ok (.iload_n 1, 1) := by decide +kernel
theorem dL_cell_1 : decode cL_cell 1 = .ok (.aload_n 0, 1) := by decide +kernel
theorem dL_cell_2 : decode cL_cell 2 = .ok (.arraylength, 1) := by decide +kernel
theorem dL_cell_3 : decode cL_cell 3 = .ok (.if_icmp .ge 9, 3) := by decide +kernel
theorem dL_cell_6 : decode cL_cell 6 = .ok (.aload_n 0, 1) := by decide +kernel
theorem dL_cell_7 : decode cL_cell 7 = .ok (.iload_n 1, 1) := by decide +kernel
theorem dL_cell_8 : decode cL_cell 8 = .ok (.iaload, 1) := by decide +kernel
theorem dL_cell_9 : decode cL_cell 9 = .ok (.goto 10, 3) := by decide +kernel
theorem dL_cell_12 : decode cL_cell 12 = .ok (.ldc 7, 2) := by decide +kernel
theorem dL_cell_14 : decode cL_cell 14 = .ok (.iload_n 1, 1) := by decide +kernel
theorem dL_cell_15 : decode cL_cell 15 = .ok (.imul, 1) := by decide +kernel
theorem dL_cell_16 : decode cL_cell 16 = .ok (.ldc 8, 2) := by decide +kernel
theorem dL_cell_18 : decode cL_cell 18 = .ok (.iadd, 1) := by decide +kernel
theorem dL_cell_19 : decode cL_cell 19 = .ok (.ireturn, 1) := by decide +kernel
theorem dL_low_0 : decode cL_low 0 = .ok (.iload_n 0, 1) := by decide +kernel
theorem dL_low_1 : decode cL_low 1 = .ok (.ldc 9, 2) := by decide +kernel
theorem dL_low_3 : decode cL_low 3 = .ok (.iand, 1) := by decide +kernel
theorem dL_low_4 : decode cL_low 4 = .ok (.iload_n 1, 1) := by decide +kernel
theorem dL_low_5 : decode cL_low 5 = .ok (.irem, 1) := by decide +kernel
theorem dL_low_6 : decode cL_low 6 = .ok (.ireturn, 1) := by decide +kernel
