set_option maxRecDepth 20000 in
theorem ggL_add_X1_add : GoodIn wsL_add wsX1_add := goodIn_ca (goodIn_ca (goodIn_r _ [7, 8, 9, 10, 11, 12, 13, 14, 15, 16, 6, 17, 18, 19, 20, 21, 22, 23, 24, 25, 26, 27, 28, 29, 30, 31, 32, 33, 34, 35, 36, 37, 38, 39, 40, 41, 42, 43, 44, 45, 46, 47, 48, 49, 50, 51, 52, 53, 54, 55, 56, 57, 58, 59, 60, 61, 62, 63, 64, 65, 66, 67, 68, 69, 70, 71] (by decide +kernel) (by decide +kernel)) (goodIn_sub (fun _ h => List.mem_cons_of_mem _ (List.mem_append_left _ (List.mem_append_right _ h))) (by decide +kernel))) (goodIn_sub (fun _ h => List.mem_cons_of_mem _ (List.mem_append_right _ h)) (by decide +kernel))
set_option maxRecDepth 20000 in
theorem gL_add_X1_add : GoodIn wsL_add (wsV RL 7 RX1 yX1_add wsX1_add) := goodIn_app (goodIn_of _ (by decide +kernel)) ggL_add_X1_add
theorem dL_add_0 : decode cL_add 0 = .ok (.aload 8, 2) := by decide +kernel
theorem dL_add_2 : decode cL_add 2 = .ok (.iconst 0, 1) := by decide +kernel
theorem dL_add_3 : decode cL_add 3 = .ok (.aload_n 0, 1) := by decide +kernel
theorem dL_add_4 : decode cL_add 4 = .ok (.iload_n 1, 1) := by decide +kernel
theorem dL_add_5 : decode cL_add 5 = .ok (.iload_n 2, 1) := by decide +kernel
theorem dL_add_6 : decode cL_add 6 = .ok (.iload_n 3, 1) := by decide +kernel
theorem dL_add_7 : decode cL_add 7 = .ok (.iload 4, 2) := by decide +kernel
theorem dL_add_9 : decode cL_add 9 = .ok (.iload 5, 2) := by decide +kernel
theorem dL_add_11 : decode cL_add 11 = .ok (.iload 6, 2) := by decide +kernel
theorem dL_add_13 : decode cL_add 13 = .ok (.iload 7, 2) := by decide +kernel
theorem dL_add_15 : decode cL_add 15 = .ok (.invokevirtual 7, 3) := by decide +kernel
theorem dL_add_18 : decode cL_add 18 = .ok (.i2l, 1) := by decide +kernel
theorem dL_add_19 : decode cL_add 19 = .ok (.lastore, 1) := by decide +kernel
theorem dL_add_20 : decode cL_add 20 = .ok (.goto 11, 3) := by decide +kernel
theorem dL_add_23 : decode cL_add 23 = .ok (.astore 9, 2) := by decide +kernel
theorem dL_add_25 : decode cL_add 25 = .ok (.iconst 1, 1) := by decide +kernel
theorem dL_add_26 : decode cL_add 26 = .ok (.ireturn, 1) := by decide +kernel
theorem dL_add_27 : decode cL_add 27 = .ok (.astore 9, 2) := by decide +kernel
theorem dL_add_29 : decode cL_add 29 = .ok (.iconst 2, 1) := by decide +kernel
theorem dL_add_30 : decode cL_add 30 = .ok (.ireturn, 1) := by decide +kernel
theorem dL_add_31 : decode cL_add 31 = .ok (.iconst 0, 1) := by decide +kernel
theorem dL_add_32 : decode cL_add 32 = .ok (.ireturn, 1) := by decide +kernel
set_option maxRecDepth 20000 in
theorem ggL_pass_X1_pass : GoodIn wsL_pass wsX1_pass := goodIn_ca (goodIn_r _ [6, 7, 8, 9, 5, 10, 11, 12, 13, 14, 15, 16, 17, 18, 19, 20, 21, 22, 23, 24, 25, 26, 27, 28, 29, 30, 31, 32, 33, 34, 35, 36, 37, 38, 39, 40, 41, 42, 43, 44, 45, 46, 47, 48, 49, 50, 51, 52, 53, 54] (by decide +kernel) (by decide +kernel)) (goodIn_sub (fun _ h => List.mem_cons_of_mem _ (List.mem_append_right _ h)) (by decide +kernel))
set_option maxRecDepth 20000 in
theorem gL_pass_X1_pass : GoodIn wsL_pass (wsV RL 17 RX1 yX1_pass wsX1_pass) := goodIn_app (goodIn_of _ (by decide +kernel)) ggL_pass_X1_pass
theorem dL_pass_0 : decode cL_pass 0 = .ok (.aload_n 2, 1) := by decide +kernel
theorem dL_pass_1 : decode cL_pass 1 = .ok (.iconst 0, 1) := by decide +kernel
theorem dL_pass_2 : decode cL_pass 2 = .ok (.aload_n 0, 1) := by decide +kernel
theorem dL_pass_3 : decode cL_pass 3 = .ok (.iload_n 1, 1) := by decide +kernel
theorem dL_pass_4 : decode cL_pass 4 = .ok (.invokevirtual 17, 3) := by decide +kernel
theorem dL_pass_7 : decode cL_pass 7 = .ok (.i2l, 1) := by decide +kernel
theorem dL_pass_8 : decode cL_pass 8 = .ok (.lastore, 1) := by decide +kernel
theorem dL_pass_9 : decode cL_pass 9 = .ok (.goto 6, 3) := by decide +kernel
theorem dL_pass_12 : decode cL_pass 12 = .ok (.astore_n 3, 1) := by decide +kernel
theorem dL_pass_13 : decode cL_pass 13 = .ok (.iconst 1, 1) := by decide +kernel
theorem dL_pass_14 : decode cL_pass 14 = .ok (.ireturn, 1) := by decide +kernel
theorem dL_pass_15 : decode cL_pass 15 = .ok (.iconst 0, 1) := by decide +kernel
theorem dL_pass_16 : decode cL_pass 16 = .ok (.ireturn, 1) := by decide +kernel
set_option maxRecDepth 20000 in
theorem ggL_review_X1_review : GoodIn wsL_review wsX1_review := goodIn_ca (goodIn_ca (goodIn_ca (goodIn_r _ [8, 9, 10, 11, 12, 13, 7, 14, 15, 16, 17, 18, 19, 20, 21, 22, 23, 24, 25, 26, 27, 28, 29, 30, 31, 32, 33, 34, 35, 36, 37, 38, 39, 40, 41, 42, 43, 44, 45, 46, 47, 48, 49, 50, 51, 52, 53, 54, 55, 56, 57, 58, 59, 60, 61, 62, 63, 64, 65, 66, 67, 68, 69, 70, 71, 72, 73, 74, 75, 76, 77, 78, 79, 80, 81, 82, 83, 84, 85, 86, 87, 88, 89] (by decide +kernel) (by decide +kernel)) (goodIn_sub (fun _ h => List.mem_cons_of_mem _ (List.mem_append_left _ (List.mem_append_left _ (List.mem_append_right _ h)))) (by decide +kernel))) (goodIn_sub (fun _ h => List.mem_cons_of_mem _ (List.mem_append_left _ (List.mem_append_right _ h))) (by decide +kernel))) (goodIn_sub (fun _ h => List.mem_cons_of_mem _ (List.mem_append_right _ h)) (by decide +kernel))
set_option maxRecDepth 20000 in
theorem gL_review_X1_review : GoodIn wsL_review (wsV RL 21 RX1 yX1_review wsX1_review) := goodIn_app (goodIn_of _ (by decide +kernel)) ggL_review_X1_review
theorem dL_review_0 : decode cL_review 0 = .ok (.aload_n 3, 1) := by decide +kernel
theorem dL_review_1 : decode cL_review 1 = .ok (.iconst 0, 1) := by decide +kernel
theorem dL_review_2 : decode cL_review 2 = .ok (.aload_n 0, 1) := by decide +kernel
theorem dL_review_3 : decode cL_review 3 = .ok (.iload_n 1, 1) := by decide +kernel
theorem dL_review_4 : decode cL_review 4 = .ok (.iload_n 2, 1) := by decide +kernel
theorem dL_review_5 : decode cL_review 5 = .ok (.invokevirtual 21, 3) := by decide +kernel
theorem dL_review_8 : decode cL_review 8 = .ok (.i2l, 1) := by decide +kernel
theorem dL_review_9 : decode cL_review 9 = .ok (.lastore, 1) := by decide +kernel
theorem dL_review_10 : decode cL_review 10 = .ok (.goto 15, 3) := by decide +kernel
theorem dL_review_13 : decode cL_review 13 = .ok (.astore 4, 2) := by decide +kernel
theorem dL_review_15 : decode cL_review 15 = .ok (.iconst 1, 1) := by decide +kernel
theorem dL_review_16 : decode cL_review 16 = .ok (.ireturn, 1) := by decide +kernel
theorem dL_review_17 : decode cL_review 17 = .ok (.astore 4, 2) := by decide +kernel
theorem dL_review_19 : decode cL_review 19 = .ok (.iconst 2, 1) := by decide +kernel
theorem dL_review_20 : decode cL_review 20 = .ok (.ireturn, 1) := by decide +kernel
theorem dL_review_21 : decode cL_review 21 = .ok (.astore 4, 2) := by decide +kernel
theorem dL_review_23 : decode cL_review 23 = .ok (.iconst 3, 1) := by decide +kernel
theorem dL_review_24 : decode cL_review 24 = .ok (.ireturn, 1) := by decide +kernel
theorem dL_review_25 : decode cL_review 25 = .ok (.iconst 0, 1) := by decide +kernel
theorem dL_review_26 : decode cL_review 26 = .ok (.ireturn, 1) := by decide +kernel
set_option maxRecDepth 20000 in
theorem ggL_lengthen_X1_lengthen : GoodIn wsL_lengthen wsX1_lengthen := goodIn_ca (goodIn_ca (goodIn_ca (goodIn_r _ [8, 9, 10, 11, 12, 13, 7, 14, 15, 16, 17, 18, 19, 20, 21, 22, 23, 24, 25, 26, 27, 28, 29, 30, 31, 32, 33, 34, 35, 36, 37, 38, 39, 40, 41, 42, 43, 44, 45, 46, 47, 48, 49, 50, 51, 52, 53, 54, 55, 56, 57, 58, 59, 60, 61, 62, 63, 64, 65, 66, 67, 68, 69, 70, 71, 72, 73, 74, 75, 76, 77, 78, 79, 80, 81, 82, 83, 84, 85] (by decide +kernel) (by decide +kernel)) (goodIn_sub (fun _ h => List.mem_cons_of_mem _ (List.mem_append_left _ (List.mem_append_left _ (List.mem_append_right _ h)))) (by decide +kernel))) (goodIn_sub (fun _ h => List.mem_cons_of_mem _ (List.mem_append_left _ (List.mem_append_right _ h))) (by decide +kernel))) (goodIn_sub (fun _ h => List.mem_cons_of_mem _ (List.mem_append_right _ h)) (by decide +kernel))
set_option maxRecDepth 20000 in
theorem gL_lengthen_X1_lengthen : GoodIn wsL_lengthen (wsV RL 27 RX1 yX1_lengthen wsX1_lengthen) := goodIn_app (goodIn_of _ (by decide +kernel)) ggL_lengthen_X1_lengthen
theorem dL_lengthen_0 : decode cL_lengthen 0 = .ok (.aload 4, 2) := by decide +kernel
theorem dL_lengthen_2 : decode cL_lengthen 2 = .ok (.iconst 0, 1) := by decide +kernel
theorem dL_lengthen_3 : decode cL_lengthen 3 = .ok (.aload_n 0, 1) := by decide +kernel
theorem dL_lengthen_4 : decode cL_lengthen 4 = .ok (.iload_n 1, 1) := by decide +kernel
theorem dL_lengthen_5 : decode cL_lengthen 5 = .ok (.iload_n 2, 1) := by decide +kernel
theorem dL_lengthen_6 : decode cL_lengthen 6 = .ok (.iload_n 3, 1) := by decide +kernel
theorem dL_lengthen_7 : decode cL_lengthen 7 = .ok (.invokevirtual 27, 3) := by decide +kernel
theorem dL_lengthen_10 : decode cL_lengthen 10 = .ok (.i2l, 1) := by decide +kernel
theorem dL_lengthen_11 : decode cL_lengthen 11 = .ok (.lastore, 1) := by decide +kernel
theorem dL_lengthen_12 : decode cL_lengthen 12 = .ok (.goto 15, 3) := by decide +kernel
theorem dL_lengthen_15 : decode cL_lengthen 15 = .ok (.astore 5, 2) := by decide +kernel
theorem dL_lengthen_17 : decode cL_lengthen 17 = .ok (.iconst 1, 1) := by decide +kernel
theorem dL_lengthen_18 : decode cL_lengthen 18 = .ok (.ireturn, 1) := by decide +kernel
theorem dL_lengthen_19 : decode cL_lengthen 19 = .ok (.astore 5, 2) := by decide +kernel
theorem dL_lengthen_21 : decode cL_lengthen 21 = .ok (.iconst 2, 1) := by decide +kernel
theorem dL_lengthen_22 : decode cL_lengthen 22 = .ok (.ireturn, 1) := by decide +kernel
theorem dL_lengthen_23 : decode cL_lengthen 23 = .ok (.astore 5, 2) := by decide +kernel
theorem dL_lengthen_25 : decode cL_lengthen 25 = .ok (.iconst 3, 1) := by decide +kernel
theorem dL_lengthen_26 : decode cL_lengthen 26 = .ok (.ireturn, 1) := by decide +kernel
theorem dL_lengthen_27 : decode cL_lengthen 27 = .ok (.iconst 0, 1) := by decide +kernel
theorem dL_lengthen_28 : decode cL_lengthen 28 = .ok (.ireturn, 1) := by decide +kernel
set_option maxRecDepth 20000 in
theorem ggL_shorten_X1_shorten : GoodIn wsL_shorten wsX1_shorten := goodIn_ca (goodIn_ca (goodIn_ca (goodIn_r _ [8, 9, 10, 11, 12, 13, 7, 14, 15, 16, 17, 18, 19, 20, 21, 22, 23, 24, 25, 26, 27, 28, 29, 30, 31, 32, 33, 34, 35, 36, 37, 38, 39, 40, 41, 42, 43, 44, 45, 46, 47, 48, 49, 50, 51, 52, 53, 54, 55, 56, 57, 58, 59, 60, 61, 62, 63, 64, 65, 66, 67, 68, 69, 70, 71, 72, 73, 74] (by decide +kernel) (by decide +kernel)) (goodIn_sub (fun _ h => List.mem_cons_of_mem _ (List.mem_append_left _ (List.mem_append_left _ (List.mem_append_right _ h)))) (by decide +kernel))) (goodIn_sub (fun _ h => List.mem_cons_of_mem _ (List.mem_append_left _ (List.mem_append_right _ h))) (by decide +kernel))) (goodIn_sub (fun _ h => List.mem_cons_of_mem _ (List.mem_append_right _ h)) (by decide +kernel))
set_option maxRecDepth 20000 in
theorem gL_shorten_X1_shorten : GoodIn wsL_shorten (wsV RL 31 RX1 yX1_shorten wsX1_shorten) := goodIn_app (goodIn_of _ (by decide +kernel)) ggL_shorten_X1_shorten
theorem dL_shorten_0 : decode cL_shorten 0 = .ok (.aload_n 3, 1) := by decide +kernel
theorem dL_shorten_1 : decode cL_shorten 1 = .ok (.iconst 0, 1) := by decide +kernel
theorem dL_shorten_2 : decode cL_shorten 2 = .ok (.aload_n 0, 1) := by decide +kernel
theorem dL_shorten_3 : decode cL_shorten 3 = .ok (.iload_n 1, 1) := by decide +kernel
theorem dL_shorten_4 : decode cL_shorten 4 = .ok (.iload_n 2, 1) := by decide +kernel
theorem dL_shorten_5 : decode cL_shorten 5 = .ok (.invokevirtual 31, 3) := by decide +kernel
theorem dL_shorten_8 : decode cL_shorten 8 = .ok (.i2l, 1) := by decide +kernel
theorem dL_shorten_9 : decode cL_shorten 9 = .ok (.lastore, 1) := by decide +kernel
theorem dL_shorten_10 : decode cL_shorten 10 = .ok (.goto 15, 3) := by decide +kernel
theorem dL_shorten_13 : decode cL_shorten 13 = .ok (.astore 4, 2) := by decide +kernel
theorem dL_shorten_15 : decode cL_shorten 15 = .ok (.iconst 1, 1) := by decide +kernel
theorem dL_shorten_16 : decode cL_shorten 16 = .ok (.ireturn, 1) := by decide +kernel
theorem dL_shorten_17 : decode cL_shorten 17 = .ok (.astore 4, 2) := by decide +kernel
theorem dL_shorten_19 : decode cL_shorten 19 = .ok (.iconst 2, 1) := by decide +kernel
theorem dL_shorten_20 : decode cL_shorten 20 = .ok (.ireturn, 1) := by decide +kernel
theorem dL_shorten_21 : decode cL_shorten 21 = .ok (.astore 4, 2) := by decide +kernel
theorem dL_shorten_23 : decode cL_shorten 23 = .ok (.iconst 3, 1) := by decide +kernel
theorem dL_shorten_24 : decode cL_shorten 24 = .ok (.ireturn, 1) := by decide +kernel
theorem dL_shorten_25 : decode cL_shorten 25 = .ok (.iconst 0, 1) := by decide +kernel
theorem dL_shorten_26 : decode cL_shorten 26 = .ok (.ireturn, 1) := by decide +kernel
set_option maxRecDepth 20000 in
theorem ggL_cut_X1_cut : GoodIn wsL_cut wsX1_cut := goodIn_ca (goodIn_ca (goodIn_ca (goodIn_r _ [8, 9, 10, 11, 7, 12, 13, 14, 15, 16, 17, 18, 19, 20, 21, 22, 23, 24, 25, 26, 27, 28, 29, 30, 31, 32, 33, 34, 35, 36, 37, 38, 39, 40, 41, 42, 43, 44, 45, 46, 47, 48, 49, 50, 51, 52, 53, 54, 55, 56, 57, 58, 59, 60, 61, 62, 63, 64, 65, 66, 67, 68, 69, 70, 71, 72, 73, 74, 75, 76, 77, 78, 79, 80, 81, 82, 83, 84] (by decide +kernel) (by decide +kernel)) (goodIn_sub (fun _ h => List.mem_cons_of_mem _ (List.mem_append_left _ (List.mem_append_left _ (List.mem_append_right _ h)))) (by decide +kernel))) (goodIn_sub (fun _ h => List.mem_cons_of_mem _ (List.mem_append_left _ (List.mem_append_right _ h))) (by decide +kernel))) (goodIn_sub (fun _ h => List.mem_cons_of_mem _ (List.mem_append_right _ h)) (by decide +kernel))
set_option maxRecDepth 20000 in
theorem gL_cut_X1_cut : GoodIn wsL_cut (wsV RL 34 RX1 yX1_cut wsX1_cut) := goodIn_app (goodIn_of _ (by decide +kernel)) ggL_cut_X1_cut
theorem dL_cut_0 : decode cL_cut 0 = .ok (.aload_n 3, 1) := by decide +kernel
theorem dL_cut_1 : decode cL_cut 1 = .ok (.iconst 0, 1) := by decide +kernel
theorem dL_cut_2 : decode cL_cut 2 = .ok (.aload_n 0, 1) := by decide +kernel
theorem dL_cut_3 : decode cL_cut 3 = .ok (.iload_n 1, 1) := by decide +kernel
theorem dL_cut_4 : decode cL_cut 4 = .ok (.iload_n 2, 1) := by decide +kernel
theorem dL_cut_5 : decode cL_cut 5 = .ok (.invokevirtual 34, 3) := by decide +kernel
theorem dL_cut_8 : decode cL_cut 8 = .ok (.i2l, 1) := by decide +kernel
theorem dL_cut_9 : decode cL_cut 9 = .ok (.lastore, 1) := by decide +kernel
theorem dL_cut_10 : decode cL_cut 10 = .ok (.goto 15, 3) := by decide +kernel
theorem dL_cut_13 : decode cL_cut 13 = .ok (.astore 4, 2) := by decide +kernel
theorem dL_cut_15 : decode cL_cut 15 = .ok (.iconst 1, 1) := by decide +kernel
theorem dL_cut_16 : decode cL_cut 16 = .ok (.ireturn, 1) := by decide +kernel
theorem dL_cut_17 : decode cL_cut 17 = .ok (.astore 4, 2) := by decide +kernel
theorem dL_cut_19 : decode cL_cut 19 = .ok (.iconst 2, 1) := by decide +kernel
theorem dL_cut_20 : decode cL_cut 20 = .ok (.ireturn, 1) := by decide +kernel
theorem dL_cut_21 : decode cL_cut 21 = .ok (.astore 4, 2) := by decide +kernel
theorem dL_cut_23 : decode cL_cut 23 = .ok (.iconst 3, 1) := by decide +kernel
theorem dL_cut_24 : decode cL_cut 24 = .ok (.ireturn, 1) := by decide +kernel
theorem dL_cut_25 : decode cL_cut 25 = .ok (.iconst 0, 1) := by decide +kernel
theorem dL_cut_26 : decode cL_cut 26 = .ok (.ireturn, 1) := by decide +kernel
set_option maxRecDepth 20000 in
theorem ggL_toCome_X1_toCome : GoodIn wsL_toCome wsX1_toCome := goodIn_ca (goodIn_r _ [6, 7, 8, 9, 5, 10, 11, 12, 13, 14, 15, 16, 17, 18, 19, 20, 21, 22, 23, 24, 25, 26, 27, 28, 29, 30, 31, 32, 33] (by decide +kernel) (by decide +kernel)) (goodIn_sub (fun _ h => List.mem_cons_of_mem _ (List.mem_append_right _ h)) (by decide +kernel))
set_option maxRecDepth 20000 in
theorem gL_toCome_X1_toCome : GoodIn wsL_toCome (wsV RL 37 RX1 yX1_toCome wsX1_toCome) := goodIn_app (goodIn_of _ (by decide +kernel)) ggL_toCome_X1_toCome
theorem dL_toCome_0 : decode cL_toCome 0 = .ok (.aload_n 2, 1) := by decide +kernel
theorem dL_toCome_1 : decode cL_toCome 1 = .ok (.iconst 0, 1) := by decide +kernel
theorem dL_toCome_2 : decode cL_toCome 2 = .ok (.aload_n 0, 1) := by decide +kernel
theorem dL_toCome_3 : decode cL_toCome 3 = .ok (.iload_n 1, 1) := by decide +kernel
theorem dL_toCome_4 : decode cL_toCome 4 = .ok (.invokevirtual 37, 3) := by decide +kernel
theorem dL_toCome_7 : decode cL_toCome 7 = .ok (.i2l, 1) := by decide +kernel
theorem dL_toCome_8 : decode cL_toCome 8 = .ok (.lastore, 1) := by decide +kernel
theorem dL_toCome_9 : decode cL_toCome 9 = .ok (.goto 6, 3) := by decide +kernel
theorem dL_toCome_12 : decode cL_toCome 12 = .ok (.astore_n 3, 1) := by decide +kernel
theorem dL_toCome_13 : decode cL_toCome 13 = .ok (.iconst 1, 1) := by decide +kernel
theorem dL_toCome_14 : decode cL_toCome 14 = .ok (.ireturn, 1) := by decide +kernel
theorem dL_toCome_15 : decode cL_toCome 15 = .ok (.iconst 0, 1) := by decide +kernel
theorem dL_toCome_16 : decode cL_toCome 16 = .ok (.ireturn, 1) := by decide +kernel
set_option maxRecDepth 20000 in
theorem ggL_payment_X1_payment : GoodIn wsL_payment wsX1_payment := goodIn_ca (goodIn_r _ [6, 7, 8, 9, 10, 11, 5, 12, 13, 14, 15, 16, 17, 18, 19, 20, 21, 22, 23, 24, 25, 26, 27, 28, 29, 30, 31, 32, 33, 34, 35, 36, 37, 38, 39, 40, 41] (by decide +kernel) (by decide +kernel)) (goodIn_sub (fun _ h => List.mem_cons_of_mem _ (List.mem_append_right _ h)) (by decide +kernel))
set_option maxRecDepth 20000 in
theorem gL_payment_X1_payment : GoodIn wsL_payment (wsV RL 40 RX1 yX1_payment wsX1_payment) := goodIn_app (goodIn_of _ (by decide +kernel)) ggL_payment_X1_payment
theorem dL_payment_0 : decode cL_payment 0 = .ok (.aload_n 3, 1) := by decide +kernel
theorem dL_payment_1 : decode cL_payment 1 = .ok (.iconst 0, 1) := by decide +kernel
theorem dL_payment_2 : decode cL_payment 2 = .ok (.aload_n 0, 1) := by decide +kernel
theorem dL_payment_3 : decode cL_payment 3 = .ok (.iload_n 1, 1) := by decide +kernel
theorem dL_payment_4 : decode cL_payment 4 = .ok (.iload_n 2, 1) := by decide +kernel
theorem dL_payment_5 : decode cL_payment 5 = .ok (.invokevirtual 40, 3) := by decide +kernel
theorem dL_payment_8 : decode cL_payment 8 = .ok (.i2l, 1) := by decide +kernel
theorem dL_payment_9 : decode cL_payment 9 = .ok (.lastore, 1) := by decide +kernel
theorem dL_payment_10 : decode cL_payment 10 = .ok (.goto 7, 3) := by decide +kernel
theorem dL_payment_13 : decode cL_payment 13 = .ok (.astore 4, 2) := by decide +kernel
theorem dL_payment_15 : decode cL_payment 15 = .ok (.iconst 1, 1) := by decide +kernel
theorem dL_payment_16 : decode cL_payment 16 = .ok (.ireturn, 1) := by decide +kernel
theorem dL_payment_17 : decode cL_payment 17 = .ok (.iconst 0, 1) := by decide +kernel
theorem dL_payment_18 : decode cL_payment 18 = .ok (.ireturn, 1) := by decide +kernel
set_option maxRecDepth 20000 in
theorem ggL_debt_X1_debt : GoodIn wsL_debt wsX1_debt := goodIn_ca (goodIn_r _ [6, 7, 8, 9, 5, 10, 11, 12, 13, 14, 15, 16, 17, 18, 19, 20, 21, 22, 23, 24, 25, 26, 27, 28, 29, 30, 31, 32, 33, 34, 35, 36] (by decide +kernel) (by decide +kernel)) (goodIn_sub (fun _ h => List.mem_cons_of_mem _ (List.mem_append_right _ h)) (by decide +kernel))
set_option maxRecDepth 20000 in
theorem gL_debt_X1_debt : GoodIn wsL_debt (wsV RL 43 RX1 yX1_debt wsX1_debt) := goodIn_app (goodIn_of _ (by decide +kernel)) ggL_debt_X1_debt
theorem dL_debt_0 : decode cL_debt 0 = .ok (.aload_n 2, 1) := by decide +kernel
theorem dL_debt_1 : decode cL_debt 1 = .ok (.iconst 0, 1) := by decide +kernel
theorem dL_debt_2 : decode cL_debt 2 = .ok (.aload_n 0, 1) := by decide +kernel
theorem dL_debt_3 : decode cL_debt 3 = .ok (.iload_n 1, 1) := by decide +kernel
theorem dL_debt_4 : decode cL_debt 4 = .ok (.invokevirtual 43, 3) := by decide +kernel
theorem dL_debt_7 : decode cL_debt 7 = .ok (.i2l, 1) := by decide +kernel
theorem dL_debt_8 : decode cL_debt 8 = .ok (.lastore, 1) := by decide +kernel
theorem dL_debt_9 : decode cL_debt 9 = .ok (.goto 6, 3) := by decide +kernel
theorem dL_debt_12 : decode cL_debt 12 = .ok (.astore_n 3, 1) := by decide +kernel
theorem dL_debt_13 : decode cL_debt 13 = .ok (.iconst 1, 1) := by decide +kernel
theorem dL_debt_14 : decode cL_debt 14 = .ok (.ireturn, 1) := by decide +kernel
theorem dL_debt_15 : decode cL_debt 15 = .ok (.iconst 0, 1) := by decide +kernel
theorem dL_debt_16 : decode cL_debt 16 = .ok (.ireturn, 1) := by decide +kernel
set_option maxRecDepth 20000 in
theorem ggL_debtByWorth_X1_debtByWorth : GoodIn wsL_debtByWorth wsX1_debtByWorth := goodIn_ca (goodIn_r _ [6, 7, 8, 9, 5, 10, 11, 12, 13, 14, 15, 16, 17, 18, 19, 20, 21, 22, 23, 24, 25, 26, 27, 28, 29, 30, 31, 32, 33, 34, 35, 36, 37, 38, 39, 40, 41] (by decide +kernel) (by decide +kernel)) (goodIn_sub (fun _ h => List.mem_cons_of_mem _ (List.mem_append_right _ h)) (by decide +kernel))
set_option maxRecDepth 20000 in
theorem gL_debtByWorth_X1_debtByWorth : GoodIn wsL_debtByWorth (wsV RL 46 RX1 yX1_debtByWorth wsX1_debtByWorth) := goodIn_app (goodIn_of _ (by decide +kernel)) ggL_debtByWorth_X1_debtByWorth
theorem dL_debtByWorth_0 : decode cL_debtByWorth 0 = .ok (.aload_n 2, 1) := by decide +kernel
theorem dL_debtByWorth_1 : decode cL_debtByWorth 1 = .ok (.iconst 0, 1) := by decide +kernel
theorem dL_debtByWorth_2 : decode cL_debtByWorth 2 = .ok (.aload_n 0, 1) := by decide +kernel
theorem dL_debtByWorth_3 : decode cL_debtByWorth 3 = .ok (.iload_n 1, 1) := by decide +kernel
theorem dL_debtByWorth_4 : decode cL_debtByWorth 4 = .ok (.invokevirtual 46, 3) := by decide +kernel
theorem dL_debtByWorth_7 : decode cL_debtByWorth 7 = .ok (.i2l, 1) := by decide +kernel
theorem dL_debtByWorth_8 : decode cL_debtByWorth 8 = .ok (.lastore, 1) := by decide +kernel
theorem dL_debtByWorth_9 : decode cL_debtByWorth 9 = .ok (.goto 6, 3) := by decide +kernel
theorem dL_debtByWorth_12 : decode cL_debtByWorth 12 = .ok (.astore_n 3, 1) := by decide +kernel
theorem dL_debtByWorth_13 : decode cL_debtByWorth 13 = .ok (.iconst 1, 1) := by decide +kernel
theorem dL_debtByWorth_14 : decode cL_debtByWorth 14 = .ok (.ireturn, 1) := by decide +kernel
theorem dL_debtByWorth_15 : decode cL_debtByWorth 15 = .ok (.iconst 0, 1) := by decide +kernel
theorem dL_debtByWorth_16 : decode cL_debtByWorth 16 = .ok (.ireturn, 1) := by decide +kernel
set_option maxRecDepth 20000 in
theorem ggL_right_X1_right : GoodIn wsL_right wsX1_right := goodIn_ca (goodIn_r _ [6, 7, 8, 9, 5, 10, 11, 12, 13, 14, 15, 16, 17, 18, 19, 20, 21, 22, 23, 24, 25, 26] (by decide +kernel) (by decide +kernel)) (goodIn_sub (fun _ h => List.mem_cons_of_mem _ (List.mem_append_right _ h)) (by decide +kernel))
set_option maxRecDepth 20000 in
theorem gL_right_X1_right : GoodIn wsL_right (wsV RL 49 RX1 yX1_right wsX1_right) := goodIn_app (goodIn_of _ (by decide +kernel)) ggL_right_X1_right
theorem dL_right_0 : decode cL_right 0 = .ok (.aload_n 2, 1) := by decide +kernel
theorem dL_right_1 : decode cL_right 1 = .ok (.iconst 0, 1) := by decide +kernel
theorem dL_right_2 : decode cL_right 2 = .ok (.aload_n 0, 1) := by decide +kernel
theorem dL_right_3 : decode cL_right 3 = .ok (.iload_n 1, 1) := by decide +kernel
theorem dL_right_4 : decode cL_right 4 = .ok (.invokevirtual 49, 3) := by decide +kernel
theorem dL_right_7 : decode cL_right 7 = .ok (.i2l, 1) := by decide +kernel
theorem dL_right_8 : decode cL_right 8 = .ok (.lastore, 1) := by decide +kernel
theorem dL_right_9 : decode cL_right 9 = .ok (.goto 6, 3) := by decide +kernel
theorem dL_right_12 : decode cL_right 12 = .ok (.astore_n 3, 1) := by decide +kernel
theorem dL_right_13 : decode cL_right 13 = .ok (.iconst 1, 1) := by decide +kernel
theorem dL_right_14 : decode cL_right 14 = .ok (.ireturn, 1) := by decide +kernel
theorem dL_right_15 : decode cL_right 15 = .ok (.iconst 0, 1) := by decide +kernel
theorem dL_right_16 : decode cL_right 16 = .ok (.ireturn, 1) := by decide +kernel
set_option maxRecDepth 20000 in
theorem ggL_interest_X1_interest : GoodIn wsL_interest wsX1_interest := goodIn_ca (goodIn_r _ [6, 7, 8, 9, 5, 10, 11, 12, 13, 14, 15, 16, 17, 18, 19, 20, 21, 22, 23, 24, 25, 26] (by decide +kernel) (by decide +kernel)) (goodIn_sub (fun _ h => List.mem_cons_of_mem _ (List.mem_append_right _ h)) (by decide +kernel))
set_option maxRecDepth 20000 in
theorem gL_interest_X1_interest : GoodIn wsL_interest (wsV RL 52 RX1 yX1_interest wsX1_interest) := goodIn_app (goodIn_of _ (by decide +kernel)) ggL_interest_X1_interest
theorem dL_interest_0 : decode cL_interest 0 = .ok (.aload_n 2, 1) := by decide +kernel
theorem dL_interest_1 : decode cL_interest 1 = .ok (.iconst 0, 1) := by decide +kernel
theorem dL_interest_2 : decode cL_interest 2 = .ok (.aload_n 0, 1) := by decide +kernel
theorem dL_interest_3 : decode cL_interest 3 = .ok (.iload_n 1, 1) := by decide +kernel
theorem dL_interest_4 : decode cL_interest 4 = .ok (.invokevirtual 52, 3) := by decide +kernel
theorem dL_interest_7 : decode cL_interest 7 = .ok (.i2l, 1) := by decide +kernel
theorem dL_interest_8 : decode cL_interest 8 = .ok (.lastore, 1) := by decide +kernel
theorem dL_interest_9 : decode cL_interest 9 = .ok (.goto 6, 3) := by decide +kernel
theorem dL_interest_12 : decode cL_interest 12 = .ok (.astore_n 3, 1) := by decide +kernel
theorem dL_interest_13 : decode cL_interest 13 = .ok (.iconst 1, 1) := by decide +kernel
theorem dL_interest_14 : decode cL_interest 14 = .ok (.ireturn, 1) := by decide +kernel
theorem dL_interest_15 : decode cL_interest 15 = .ok (.iconst 0, 1) := by decide +kernel
theorem dL_interest_16 : decode cL_interest 16 = .ok (.ireturn, 1) := by decide +kernel
set_option maxRecDepth 20000 in
theorem ggL_written_X1_written : GoodIn wsL_written wsX1_written := goodIn_ca (goodIn_r _ [6, 7, 8, 9, 5, 10, 11, 12, 13, 14, 15, 16, 17, 18, 19, 20, 21, 22, 23, 24, 25, 26] (by decide +kernel) (by decide +kernel)) (goodIn_sub (fun _ h => List.mem_cons_of_mem _ (List.mem_append_right _ h)) (by decide +kernel))
set_option maxRecDepth 20000 in
theorem gL_written_X1_written : GoodIn wsL_written (wsV RL 55 RX1 yX1_written wsX1_written) := goodIn_app (goodIn_of _ (by decide +kernel)) ggL_written_X1_written
theorem dL_written_0 : decode cL_written 0 = .ok (.aload_n 2, 1) := by decide +kernel
theorem dL_written_1 : decode cL_written 1 = .ok (.iconst 0, 1) := by decide +kernel
theorem dL_written_2 : decode cL_written 2 = .ok (.aload_n 0, 1) := by decide +kernel
theorem dL_written_3 : decode cL_written 3 = .ok (.iload_n 1, 1) := by decide +kernel
theorem dL_written_4 : decode cL_written 4 = .ok (.invokevirtual 55, 3) := by decide +kernel
theorem dL_written_7 : decode cL_written 7 = .ok (.i2l, 1) := by decide +kernel
theorem dL_written_8 : decode cL_written 8 = .ok (.lastore, 1) := by decide +kernel
theorem dL_written_9 : decode cL_written 9 = .ok (.goto 6, 3) := by decide +kernel
theorem dL_written_12 : decode cL_written 12 = .ok (.astore_n 3, 1) := by decide +kernel
theorem dL_written_13 : decode cL_written 13 = .ok (.iconst 1, 1) := by decide +kernel
theorem dL_written_14 : decode cL_written 14 = .ok (.ireturn, 1) := by decide +kernel
theorem dL_written_15 : decode cL_written 15 = .ok (.iconst 0, 1) := by decide +kernel
theorem dL_written_16 : decode cL_written 16 = .ok (.ireturn, 1) := by decide +kernel
set_option maxRecDepth 20000 in
theorem ggL_paid_X1_paid : GoodIn wsL_paid wsX1_paid := goodIn_ca (goodIn_r _ [6, 7, 8, 9, 5, 10, 11, 12, 13, 14, 15, 16, 17, 18, 19, 20, 21, 22, 23, 24, 25, 26] (by decide +kernel) (by decide +kernel)) (goodIn_sub (fun _ h => List.mem_cons_of_mem _ (List.mem_append_right _ h)) (by decide +kernel))
set_option maxRecDepth 20000 in
theorem gL_paid_X1_paid : GoodIn wsL_paid (wsV RL 58 RX1 yX1_paid wsX1_paid) := goodIn_app (goodIn_of _ (by decide +kernel)) ggL_paid_X1_paid
theorem dL_paid_0 : decode cL_paid 0 = .ok (.aload_n 2, 1) := by decide +kernel
theorem dL_paid_1 : decode cL_paid 1 = .ok (.iconst 0, 1) := by decide +kernel
theorem dL_paid_2 : decode cL_paid 2 = .ok (.aload_n 0, 1) := by decide +kernel
theorem dL_paid_3 : decode cL_paid 3 = .ok (.iload_n 1, 1) := by decide +kernel
theorem dL_paid_4 : decode cL_paid 4 = .ok (.invokevirtual 58, 3) := by decide +kernel
theorem dL_paid_7 : decode cL_paid 7 = .ok (.i2l, 1) := by decide +kernel
theorem dL_paid_8 : decode cL_paid 8 = .ok (.lastore, 1) := by decide +kernel
theorem dL_paid_9 : decode cL_paid 9 = .ok (.goto 6, 3) := by decide +kernel
theorem dL_paid_12 : decode cL_paid 12 = .ok (.astore_n 3, 1) := by decide +kernel
theorem dL_paid_13 : decode cL_paid 13 = .ok (.iconst 1, 1) := by decide +kernel
theorem dL_paid_14 : decode cL_paid 14 = .ok (.ireturn, 1) := by decide +kernel
theorem dL_paid_15 : decode cL_paid 15 = .ok (.iconst 0, 1) := by decide +kernel
theorem dL_paid_16 : decode cL_paid 16 = .ok (.ireturn, 1) := by decide +kernel
set_option maxRecDepth 20000 in
theorem ggL_gains_X1_gains : GoodIn wsL_gains wsX1_gains := goodIn_ca (goodIn_r _ [6, 7, 8, 9, 5, 10, 11, 12, 13, 14, 15, 16, 17, 18, 19, 20, 21, 22, 23, 24, 25, 26] (by decide +kernel) (by decide +kernel)) (goodIn_sub (fun _ h => List.mem_cons_of_mem _ (List.mem_append_right _ h)) (by decide +kernel))
set_option maxRecDepth 20000 in
theorem gL_gains_X1_gains : GoodIn wsL_gains (wsV RL 61 RX1 yX1_gains wsX1_gains) := goodIn_app (goodIn_of _ (by decide +kernel)) ggL_gains_X1_gains
theorem dL_gains_0 : decode cL_gains 0 = .ok (.aload_n 2, 1) := by decide +kernel
theorem dL_gains_1 : decode cL_gains 1 = .ok (.iconst 0, 1) := by decide +kernel
theorem dL_gains_2 : decode cL_gains 2 = .ok (.aload_n 0, 1) := by decide +kernel
theorem dL_gains_3 : decode cL_gains 3 = .ok (.iload_n 1, 1) := by decide +kernel
theorem dL_gains_4 : decode cL_gains 4 = .ok (.invokevirtual 61, 3) := by decide +kernel
theorem dL_gains_7 : decode cL_gains 7 = .ok (.i2l, 1) := by decide +kernel
theorem dL_gains_8 : decode cL_gains 8 = .ok (.lastore, 1) := by decide +kernel
theorem dL_gains_9 : decode cL_gains 9 = .ok (.goto 6, 3) := by decide +kernel
theorem dL_gains_12 : decode cL_gains 12 = .ok (.astore_n 3, 1) := by decide +kernel
theorem dL_gains_13 : decode cL_gains 13 = .ok (.iconst 1, 1) := by decide +kernel
theorem dL_gains_14 : decode cL_gains 14 = .ok (.ireturn, 1) := by decide +kernel
theorem dL_gains_15 : decode cL_gains 15 = .ok (.iconst 0, 1) := by decide +kernel
theorem dL_gains_16 : decode cL_gains 16 = .ok (.ireturn, 1) := by decide +kernel
set_option maxRecDepth 20000 in
theorem ggL_rateFor_X1_rateFor : GoodIn wsL_rateFor wsX1_rateFor := goodIn_ca (goodIn_ca (goodIn_r _ [7, 8, 9, 10, 11, 6, 12, 13, 14, 15, 16, 17, 18, 19, 20, 21, 22, 23, 24, 25, 26, 27, 28, 29, 30, 31, 32, 33, 34, 35, 36, 37, 38, 39, 40, 41, 42, 43, 44, 45, 46, 47, 48] (by decide +kernel) (by decide +kernel)) (goodIn_sub (fun _ h => List.mem_cons_of_mem _ (List.mem_append_left _ (List.mem_append_right _ h))) (by decide +kernel))) (goodIn_sub (fun _ h => List.mem_cons_of_mem _ (List.mem_append_right _ h)) (by decide +kernel))
set_option maxRecDepth 20000 in
theorem gL_rateFor_X1_rateFor : GoodIn wsL_rateFor (wsV RL 64 RX1 yX1_rateFor wsX1_rateFor) := goodIn_app (goodIn_of _ (by decide +kernel)) ggL_rateFor_X1_rateFor
theorem dL_rateFor_0 : decode cL_rateFor 0 = .ok (.aload_n 3, 1) := by decide +kernel
theorem dL_rateFor_1 : decode cL_rateFor 1 = .ok (.iconst 0, 1) := by decide +kernel
theorem dL_rateFor_2 : decode cL_rateFor 2 = .ok (.aload_n 0, 1) := by decide +kernel
theorem dL_rateFor_3 : decode cL_rateFor 3 = .ok (.iload_n 1, 1) := by decide +kernel
theorem dL_rateFor_4 : decode cL_rateFor 4 = .ok (.iload_n 2, 1) := by decide +kernel
theorem dL_rateFor_5 : decode cL_rateFor 5 = .ok (.invokevirtual 64, 3) := by decide +kernel
theorem dL_rateFor_8 : decode cL_rateFor 8 = .ok (.i2l, 1) := by decide +kernel
theorem dL_rateFor_9 : decode cL_rateFor 9 = .ok (.lastore, 1) := by decide +kernel
theorem dL_rateFor_10 : decode cL_rateFor 10 = .ok (.goto 11, 3) := by decide +kernel
theorem dL_rateFor_13 : decode cL_rateFor 13 = .ok (.astore 4, 2) := by decide +kernel
theorem dL_rateFor_15 : decode cL_rateFor 15 = .ok (.iconst 1, 1) := by decide +kernel
theorem dL_rateFor_16 : decode cL_rateFor 16 = .ok (.ireturn, 1) := by decide +kernel
theorem dL_rateFor_17 : decode cL_rateFor 17 = .ok (.astore 4, 2) := by decide +kernel
theorem dL_rateFor_19 : decode cL_rateFor 19 = .ok (.iconst 2, 1) := by decide +kernel
theorem dL_rateFor_20 : decode cL_rateFor 20 = .ok (.ireturn, 1) := by decide +kernel
theorem dL_rateFor_21 : decode cL_rateFor 21 = .ok (.iconst 0, 1) := by decide +kernel
theorem dL_rateFor_22 : decode cL_rateFor 22 = .ok (.ireturn, 1) := by decide +kernel
set_option maxRecDepth 20000 in
theorem ggL_saleGain_X1_saleGain : GoodIn wsL_saleGain wsX1_saleGain := goodIn_ca (goodIn_ca (goodIn_r _ [7, 8, 9, 10, 11, 6, 12, 13, 14, 15, 16, 17, 18, 19, 20, 21, 22, 23, 24, 25, 26, 27, 28, 29, 30, 31, 32, 33, 34, 35, 36, 37, 38, 39, 40, 41, 42, 43] (by decide +kernel) (by decide +kernel)) (goodIn_sub (fun _ h => List.mem_cons_of_mem _ (List.mem_append_left _ (List.mem_append_right _ h))) (by decide +kernel))) (goodIn_sub (fun _ h => List.mem_cons_of_mem _ (List.mem_append_right _ h)) (by decide +kernel))
set_option maxRecDepth 20000 in
theorem gL_saleGain_X1_saleGain : GoodIn wsL_saleGain (wsV RL 67 RX1 yX1_saleGain wsX1_saleGain) := goodIn_app (goodIn_of _ (by decide +kernel)) ggL_saleGain_X1_saleGain
theorem dL_saleGain_0 : decode cL_saleGain 0 = .ok (.aload 4, 2) := by decide +kernel
theorem dL_saleGain_2 : decode cL_saleGain 2 = .ok (.iconst 0, 1) := by decide +kernel
theorem dL_saleGain_3 : decode cL_saleGain 3 = .ok (.aload_n 0, 1) := by decide +kernel
theorem dL_saleGain_4 : decode cL_saleGain 4 = .ok (.iload_n 1, 1) := by decide +kernel
theorem dL_saleGain_5 : decode cL_saleGain 5 = .ok (.iload_n 2, 1) := by decide +kernel
theorem dL_saleGain_6 : decode cL_saleGain 6 = .ok (.iload_n 3, 1) := by decide +kernel
theorem dL_saleGain_7 : decode cL_saleGain 7 = .ok (.invokevirtual 67, 3) := by decide +kernel
theorem dL_saleGain_10 : decode cL_saleGain 10 = .ok (.i2l, 1) := by decide +kernel
theorem dL_saleGain_11 : decode cL_saleGain 11 = .ok (.lastore, 1) := by decide +kernel
theorem dL_saleGain_12 : decode cL_saleGain 12 = .ok (.goto 11, 3) := by decide +kernel
theorem dL_saleGain_15 : decode cL_saleGain 15 = .ok (.astore 5, 2) := by decide +kernel
theorem dL_saleGain_17 : decode cL_saleGain 17 = .ok (.iconst 1, 1) := by decide +kernel
theorem dL_saleGain_18 : decode cL_saleGain 18 = .ok (.ireturn, 1) := by decide +kernel
theorem dL_saleGain_19 : decode cL_saleGain 19 = .ok (.astore 5, 2) := by decide +kernel
theorem dL_saleGain_21 : decode cL_saleGain 21 = .ok (.iconst 2, 1) := by decide +kernel
theorem dL_saleGain_22 : decode cL_saleGain 22 = .ok (.ireturn, 1) := by decide +kernel
theorem dL_saleGain_23 : decode cL_saleGain 23 = .ok (.iconst 0, 1) := by decide +kernel
theorem dL_saleGain_24 : decode cL_saleGain 24 = .ok (.ireturn, 1) := by decide +kernel
set_option maxRecDepth 20000 in
theorem ggL_law_X1_init : GoodIn wsL_law wsX1_init := goodIn_r _ [9, 10, 11, 12, 13, 14, 15, 388, 389] (by decide +kernel) (by decide +kernel)
set_option maxRecDepth 20000 in
theorem gL_law_X1_init : GoodIn wsL_law (wsX1_init) := ggL_law_X1_init
set_option maxRecDepth 20000 in
theorem ggL_law_X2_init : GoodIn wsL_law wsX2_init := goodIn_r _ [18, 19, 11, 12, 20, 21, 22, 23, 24, 25, 26, 27, 28, 29, 30, 31, 390, 391, 392, 393, 394, 395, 396, 397, 398, 399, 400, 401, 402] (by decide +kernel) (by decide +kernel)
set_option maxRecDepth 20000 in
theorem gL_law_X2_init : GoodIn wsL_law (wsX2_init) := ggL_law_X2_init
set_option maxRecDepth 20000 in
theorem ggL_law_L_add : GoodIn wsL_law wsL_add := goodIn_ca (goodIn_ca (goodIn_r _ [35, 36, 37, 38, 39, 40, 2, 41, 42, 43, 15, 14, 13, 44, 45, 46, 47, 48, 49, 50, 51, 52, 53, 54, 11, 12, 55, 56, 57, 58, 59, 60, 61, 62, 63, 64, 20, 65, 66, 67, 68, 69, 70, 71, 72, 73, 74, 75, 76, 77, 78, 79, 80, 81, 82, 83, 84, 85, 86, 388, 389, 403, 404, 405, 406, 407, 408, 409, 410, 411, 412, 413] (by decide +kernel) (by decide +kernel)) (goodIn_sub (fun _ h => List.mem_append_left _ (List.mem_append_left _ (List.mem_append_right _ h))) (by decide +kernel))) (goodIn_sub (fun _ h => List.mem_append_left _ (List.mem_append_right _ h)) (by decide +kernel))
set_option maxRecDepth 20000 in
theorem gL_law_L_add : GoodIn wsL_law (va_wsS RL 74 yL_add wsL_add) := goodIn_app (goodIn_of _ (by decide +kernel)) ggL_law_L_add
set_option maxRecDepth 20000 in
theorem ggL_law_X2_add : GoodIn wsL_law wsX2_add := goodIn_r _ [90, 91, 92, 22, 24, 25, 21, 26, 27, 93, 94, 5, 95, 96, 97, 98, 99, 100, 101, 102, 103, 23, 104, 105, 106, 107, 108, 390, 391, 392, 393, 394, 395, 396, 397, 398, 399, 400, 401, 402] (by decide +kernel) (by decide +kernel)
set_option maxRecDepth 20000 in
theorem gL_law_X2_add : GoodIn wsL_law (wsV RL 79 RX2 yX2_add wsX2_add) := goodIn_app (goodIn_of _ (by decide +kernel)) ggL_law_X2_add
set_option maxRecDepth 20000 in
theorem ggL_law_X2_thrown : GoodIn wsL_law wsX2_thrown := goodIn_r _ [112, 91, 390, 391, 392, 393, 394, 395, 396, 397, 398, 399, 400, 401, 402] (by decide +kernel) (by decide +kernel)
set_option maxRecDepth 20000 in
theorem gL_law_X2_thrown : GoodIn wsL_law (wsV RL 80 RX2 yX2_thrown wsX2_thrown) := goodIn_app (goodIn_of _ (by decide +kernel)) ggL_law_X2_thrown
set_option maxRecDepth 20000 in
theorem ggL_law_L_pass : GoodIn wsL_law wsL_pass := goodIn_ca (goodIn_r _ [115, 36, 116, 117, 118, 2, 119, 14, 46, 47, 48, 49, 50, 120, 121, 122, 45, 123, 57, 58, 59, 60, 124, 125, 126, 127, 64, 75, 128, 129, 130, 131, 65, 132, 66, 133, 56, 67, 134, 76, 77, 78, 388, 389, 403, 404, 405, 406, 407, 408, 409, 410, 411, 412, 413] (by decide +kernel) (by decide +kernel)) (goodIn_sub (fun _ h => List.mem_append_left _ (List.mem_append_right _ h)) (by decide +kernel))
set_option maxRecDepth 20000 in
theorem gL_law_L_pass : GoodIn wsL_law (va_wsS RL 84 yL_pass wsL_pass) := goodIn_app (goodIn_of _ (by decide +kernel)) ggL_law_L_pass
set_option maxRecDepth 20000 in
theorem ggL_law_X2_pass : GoodIn wsL_law wsX2_pass := goodIn_r _ [138, 91, 92, 93, 94, 5, 95, 96, 97, 98, 99, 139, 140, 141, 142, 22, 23, 143, 144, 145, 146, 21, 25, 27, 24, 28, 26, 30, 29, 104, 105, 106, 107, 108, 390, 391, 392, 393, 394, 395, 396, 397, 398, 399, 400, 401, 402] (by decide +kernel) (by decide +kernel)
set_option maxRecDepth 20000 in
theorem gL_law_X2_pass : GoodIn wsL_law (wsV RL 87 RX2 yX2_pass wsX2_pass) := goodIn_app (goodIn_of _ (by decide +kernel)) ggL_law_X2_pass
set_option maxRecDepth 20000 in
theorem ggL_law_L_review : GoodIn wsL_law wsL_review := goodIn_ca (goodIn_ca (goodIn_ca (goodIn_r _ [149, 150, 36, 37, 151, 152, 153, 2, 154, 42, 43, 155, 156, 157, 158, 159, 160, 14, 46, 47, 48, 49, 50, 161, 162, 163, 164, 125, 126, 45, 127, 64, 75, 165, 166, 167, 168, 65, 82, 76, 77, 78, 169, 170, 171, 172, 173, 174, 175, 176, 177, 178, 179, 180, 68, 69, 70, 181, 182, 183, 184, 67, 185, 83, 84, 85, 86, 66, 71, 72, 73, 74, 55, 79, 80, 81, 186, 388, 389, 403, 404, 405, 406, 407, 408, 409, 410, 411, 412, 413] (by decide +kernel) (by decide +kernel)) (goodIn_sub (fun _ h => List.mem_append_left _ (List.mem_append_left _ (List.mem_append_right _ h))) (by decide +kernel))) (goodIn_sub (fun _ h => List.mem_append_right _ h) (by decide +kernel))) (goodIn_sub (fun _ h => List.mem_append_left _ (List.mem_append_right _ h)) (by decide +kernel))
set_option maxRecDepth 20000 in
theorem gL_law_L_review : GoodIn wsL_law (va_wsS RL 88 yL_review wsL_review) := goodIn_app (goodIn_of _ (by decide +kernel)) ggL_law_L_review
set_option maxRecDepth 20000 in
theorem ggL_law_X2_review : GoodIn wsL_law wsX2_review := goodIn_r _ [190, 91, 23, 22, 21, 191, 108, 192, 193, 194, 5, 195, 92, 93, 94, 95, 96, 97, 98, 99, 139, 140, 141, 142, 196, 197, 198, 199, 27, 26, 31, 100, 101, 102, 103, 24, 104, 105, 106, 107, 390, 391, 392, 393, 394, 395, 396, 397, 398, 399, 400, 401, 402] (by decide +kernel) (by decide +kernel)
set_option maxRecDepth 20000 in
theorem gL_law_X2_review : GoodIn wsL_law (wsV RL 91 RX2 yX2_review wsX2_review) := goodIn_app (goodIn_of _ (by decide +kernel)) ggL_law_X2_review
set_option maxRecDepth 20000 in
theorem ggL_law_L_lengthen : GoodIn wsL_law wsL_lengthen := goodIn_ca (goodIn_ca (goodIn_ca (goodIn_r _ [202, 150, 36, 37, 203, 204, 205, 2, 206, 42, 43, 155, 156, 157, 158, 159, 160, 14, 46, 47, 48, 49, 50, 161, 162, 163, 164, 125, 126, 45, 127, 64, 75, 207, 208, 209, 210, 211, 212, 213, 214, 57, 58, 59, 60, 65, 68, 69, 70, 181, 182, 183, 184, 67, 185, 83, 84, 85, 86, 66, 76, 77, 78, 71, 72, 73, 74, 55, 79, 80, 81, 82, 186, 388, 389, 403, 404, 405, 406, 407, 408, 409, 410, 411, 412, 413] (by decide +kernel) (by decide +kernel)) (goodIn_sub (fun _ h => List.mem_append_left _ (List.mem_append_left _ (List.mem_append_right _ h))) (by decide +kernel))) (goodIn_sub (fun _ h => List.mem_append_right _ h) (by decide +kernel))) (goodIn_sub (fun _ h => List.mem_append_left _ (List.mem_append_right _ h)) (by decide +kernel))
set_option maxRecDepth 20000 in
theorem gL_law_L_lengthen : GoodIn wsL_law (va_wsS RL 92 yL_lengthen wsL_lengthen) := goodIn_app (goodIn_of _ (by decide +kernel)) ggL_law_L_lengthen
set_option maxRecDepth 20000 in
theorem ggL_law_X2_lengthen : GoodIn wsL_law wsX2_lengthen := goodIn_r _ [218, 91, 22, 21, 192, 193, 194, 5, 195, 92, 93, 94, 95, 96, 97, 98, 99, 139, 140, 141, 142, 23, 196, 197, 198, 199, 27, 26, 31, 100, 101, 102, 103, 24, 104, 105, 106, 107, 108, 390, 391, 392, 393, 394, 395, 396, 397, 398, 399, 400, 401, 402] (by decide +kernel) (by decide +kernel)
set_option maxRecDepth 20000 in
theorem gL_law_X2_lengthen : GoodIn wsL_law (wsV RL 95 RX2 yX2_lengthen wsX2_lengthen) := goodIn_app (goodIn_of _ (by decide +kernel)) ggL_law_X2_lengthen
set_option maxRecDepth 20000 in
theorem ggL_law_L_shorten : GoodIn wsL_law wsL_shorten := goodIn_ca (goodIn_ca (goodIn_ca (goodIn_r _ [221, 150, 36, 37, 222, 223, 224, 2, 225, 42, 43, 155, 156, 157, 158, 159, 160, 14, 46, 47, 48, 49, 50, 164, 125, 126, 45, 127, 64, 75, 226, 227, 228, 229, 67, 124, 230, 231, 232, 233, 185, 83, 84, 85, 86, 66, 76, 77, 78, 71, 72, 73, 74, 65, 55, 68, 69, 70, 79, 80, 81, 82, 388, 389, 403, 404, 405, 406, 407, 408, 409, 410, 411, 412, 413] (by decide +kernel) (by decide +kernel)) (goodIn_sub (fun _ h => List.mem_append_left _ (List.mem_append_left _ (List.mem_append_right _ h))) (by decide +kernel))) (goodIn_sub (fun _ h => List.mem_append_right _ h) (by decide +kernel))) (goodIn_sub (fun _ h => List.mem_append_left _ (List.mem_append_right _ h)) (by decide +kernel))
set_option maxRecDepth 20000 in
theorem gL_law_L_shorten : GoodIn wsL_law (va_wsS RL 96 yL_shorten wsL_shorten) := goodIn_app (goodIn_of _ (by decide +kernel)) ggL_law_L_shorten
set_option maxRecDepth 20000 in
theorem ggL_law_X2_shorten : GoodIn wsL_law wsX2_shorten := goodIn_r _ [237, 91, 22, 27, 192, 193, 194, 5, 195, 92, 93, 94, 95, 96, 97, 98, 99, 139, 140, 141, 142, 23, 238, 239, 240, 241, 26, 31, 100, 101, 102, 103, 24, 104, 105, 106, 107, 108, 21, 390, 391, 392, 393, 394, 395, 396, 397, 398, 399, 400, 401, 402] (by decide +kernel) (by decide +kernel)
set_option maxRecDepth 20000 in
theorem gL_law_X2_shorten : GoodIn wsL_law (wsV RL 98 RX2 yX2_shorten wsX2_shorten) := goodIn_app (goodIn_of _ (by decide +kernel)) ggL_law_X2_shorten
set_option maxRecDepth 20000 in
theorem ggL_law_L_cut : GoodIn wsL_law wsL_cut := goodIn_ca (goodIn_ca (goodIn_ca (goodIn_r _ [244, 150, 36, 37, 245, 246, 247, 2, 248, 155, 156, 157, 158, 159, 160, 14, 46, 47, 48, 49, 50, 161, 162, 163, 42, 43, 164, 125, 126, 45, 127, 64, 75, 249, 250, 251, 252, 67, 177, 178, 179, 180, 65, 76, 77, 78, 169, 170, 171, 172, 68, 69, 70, 230, 231, 232, 233, 185, 83, 84, 85, 86, 66, 71, 72, 73, 74, 55, 79, 80, 81, 82, 388, 389, 403, 404, 405, 406, 407, 408, 409, 410, 411, 412, 413] (by decide +kernel) (by decide +kernel)) (goodIn_sub (fun _ h => List.mem_append_right _ h) (by decide +kernel))) (goodIn_sub (fun _ h => List.mem_append_left _ (List.mem_append_right _ h)) (by decide +kernel))) (goodIn_sub (fun _ h => List.mem_append_left _ (List.mem_append_left _ (List.mem_append_right _ h))) (by decide +kernel))
set_option maxRecDepth 20000 in
theorem gL_law_L_cut : GoodIn wsL_law (va_wsS RL 99 yL_cut wsL_cut) := goodIn_app (goodIn_of _ (by decide +kernel)) ggL_law_L_cut
set_option maxRecDepth 20000 in
theorem ggL_law_X2_cut : GoodIn wsL_law wsX2_cut := goodIn_r _ [256, 91, 23, 22, 21, 191, 27, 192, 193, 194, 5, 195, 92, 93, 94, 95, 96, 97, 98, 99, 139, 140, 141, 142, 238, 239, 240, 241, 26, 31, 100, 101, 102, 103, 24, 104, 105, 106, 107, 108, 390, 391, 392, 393, 394, 395, 396, 397, 398, 399, 400, 401, 402] (by decide +kernel) (by decide +kernel)
set_option maxRecDepth 20000 in
theorem gL_law_X2_cut : GoodIn wsL_law (wsV RL 101 RX2 yX2_cut wsX2_cut) := goodIn_app (goodIn_of _ (by decide +kernel)) ggL_law_X2_cut
set_option maxRecDepth 20000 in
theorem ggL_law_L_toCome : GoodIn wsL_law wsL_toCome := goodIn_ca (goodIn_r _ [259, 150, 260, 261, 262, 2, 263, 155, 156, 157, 158, 159, 160, 14, 164, 125, 126, 45, 127, 64, 75, 388, 389, 403, 404, 405, 406, 407, 408, 409, 410, 411, 412, 413] (by decide +kernel) (by decide +kernel)) (goodIn_sub (fun _ h => List.mem_append_right _ h) (by decide +kernel))
set_option maxRecDepth 20000 in
theorem gL_law_L_toCome : GoodIn wsL_law (va_wsS RL 102 yL_toCome wsL_toCome) := goodIn_app (goodIn_of _ (by decide +kernel)) ggL_law_L_toCome
set_option maxRecDepth 20000 in
theorem ggL_law_X2_toCome : GoodIn wsL_law wsX2_toCome := goodIn_r _ [267, 91, 192, 193, 194, 5, 195, 92, 93, 94, 95, 96, 97, 98, 99, 139, 140, 141, 142, 22, 23, 390, 391, 392, 393, 394, 395, 396, 397, 398, 399, 400, 401, 402] (by decide +kernel) (by decide +kernel)
set_option maxRecDepth 20000 in
theorem gL_law_X2_toCome : GoodIn wsL_law (wsV RL 104 RX2 yX2_toCome wsX2_toCome) := goodIn_app (goodIn_of _ (by decide +kernel)) ggL_law_X2_toCome
set_option maxRecDepth 20000 in
theorem ggL_law_L_payment : GoodIn wsL_law wsL_payment := goodIn_ca (goodIn_r _ [270, 150, 271, 272, 273, 2, 274, 159, 160, 155, 156, 157, 158, 14, 164, 125, 126, 45, 127, 64, 75, 275, 276, 277, 278, 65, 76, 77, 78, 388, 389, 403, 404, 405, 406, 407, 408, 409, 410, 411, 412, 413] (by decide +kernel) (by decide +kernel)) (goodIn_sub (fun _ h => List.mem_append_right _ h) (by decide +kernel))
set_option maxRecDepth 20000 in
theorem gL_law_L_payment : GoodIn wsL_law (va_wsS RL 105 yL_payment wsL_payment) := goodIn_app (goodIn_of _ (by decide +kernel)) ggL_law_L_payment
set_option maxRecDepth 20000 in
theorem ggL_law_X2_payment : GoodIn wsL_law wsX2_payment := goodIn_r _ [282, 91, 21, 23, 192, 193, 194, 5, 195, 92, 93, 94, 95, 139, 140, 141, 142, 22, 96, 97, 98, 99, 390, 391, 392, 393, 394, 395, 396, 397, 398, 399, 400, 401, 402] (by decide +kernel) (by decide +kernel)
set_option maxRecDepth 20000 in
theorem gL_law_X2_payment : GoodIn wsL_law (wsV RL 107 RX2 yX2_payment wsX2_payment) := goodIn_app (goodIn_of _ (by decide +kernel)) ggL_law_X2_payment
set_option maxRecDepth 20000 in
theorem ggL_law_L_debt : GoodIn wsL_law wsL_debt := goodIn_ca (goodIn_r _ [285, 150, 286, 287, 288, 2, 289, 155, 156, 157, 158, 159, 160, 14, 186, 84, 85, 45, 86, 66, 75, 76, 77, 78, 388, 389, 403, 404, 405, 406, 407, 408, 409, 410, 411, 412, 413] (by decide +kernel) (by decide +kernel)) (goodIn_sub (fun _ h => List.mem_append_right _ h) (by decide +kernel))
set_option maxRecDepth 20000 in
theorem gL_law_L_debt : GoodIn wsL_law (va_wsS RL 108 yL_debt wsL_debt) := goodIn_app (goodIn_of _ (by decide +kernel)) ggL_law_L_debt
set_option maxRecDepth 20000 in
theorem ggL_law_X2_debt : GoodIn wsL_law wsX2_debt := goodIn_r _ [293, 91, 26, 192, 193, 194, 5, 195, 92, 93, 94, 95, 96, 97, 98, 99, 390, 391, 392, 393, 394, 395, 396, 397, 398, 399, 400, 401, 402] (by decide +kernel) (by decide +kernel)
set_option maxRecDepth 20000 in
theorem gL_law_X2_debt : GoodIn wsL_law (wsV RL 110 RX2 yX2_debt wsX2_debt) := goodIn_app (goodIn_of _ (by decide +kernel)) ggL_law_X2_debt
set_option maxRecDepth 20000 in
theorem ggL_law_L_debtByWorth : GoodIn wsL_law wsL_debtByWorth := goodIn_ca (goodIn_r _ [296, 150, 297, 298, 299, 2, 300, 155, 156, 157, 158, 159, 160, 14, 301, 302, 303, 45, 304, 64, 75, 65, 76, 77, 78, 79, 80, 81, 82, 403, 404, 405, 406, 407, 408, 409, 410, 411, 412, 413, 388, 389] (by decide +kernel) (by decide +kernel)) (goodIn_sub (fun _ h => List.mem_append_right _ h) (by decide +kernel))
set_option maxRecDepth 20000 in
theorem gL_law_L_debtByWorth : GoodIn wsL_law (va_wsS RL 111 yL_debtByWorth wsL_debtByWorth) := goodIn_app (goodIn_of _ (by decide +kernel)) ggL_law_L_debtByWorth
set_option maxRecDepth 20000 in
theorem ggL_law_X2_debtByWorth : GoodIn wsL_law wsX2_debtByWorth := goodIn_r _ [308, 91, 192, 193, 194, 5, 195, 92, 93, 94, 95, 96, 97, 98, 99, 100, 101, 102, 103, 23, 24, 104, 105, 106, 107, 108, 22, 21, 390, 391, 392, 393, 394, 395, 396, 397, 398, 399, 400, 401, 402] (by decide +kernel) (by decide +kernel)
set_option maxRecDepth 20000 in
theorem gL_law_X2_debtByWorth : GoodIn wsL_law (wsV RL 113 RX2 yX2_debtByWorth wsX2_debtByWorth) := goodIn_app (goodIn_of _ (by decide +kernel)) ggL_law_X2_debtByWorth
set_option maxRecDepth 20000 in
theorem ggL_law_L_right : GoodIn wsL_law wsL_right := goodIn_ca (goodIn_r _ [311, 150, 312, 313, 314, 2, 315, 155, 156, 157, 158, 159, 160, 14, 403, 404, 405, 406, 407, 408, 409, 410, 411, 412, 413, 388, 389] (by decide +kernel) (by decide +kernel)) (goodIn_sub (fun _ h => List.mem_append_right _ h) (by decide +kernel))
set_option maxRecDepth 20000 in
theorem gL_law_L_right : GoodIn wsL_law (va_wsS RL 114 yL_right wsL_right) := goodIn_app (goodIn_of _ (by decide +kernel)) ggL_law_L_right
set_option maxRecDepth 20000 in
theorem ggL_law_X2_right : GoodIn wsL_law wsX2_right := goodIn_r _ [319, 91, 27, 192, 193, 194, 5, 195, 92, 93, 94, 95, 96, 97, 98, 99, 390, 391, 392, 393, 394, 395, 396, 397, 398, 399, 400, 401, 402] (by decide +kernel) (by decide +kernel)
set_option maxRecDepth 20000 in
theorem gL_law_X2_right : GoodIn wsL_law (wsV RL 116 RX2 yX2_right wsX2_right) := goodIn_app (goodIn_of _ (by decide +kernel)) ggL_law_X2_right
set_option maxRecDepth 20000 in
theorem ggL_law_L_interest : GoodIn wsL_law wsL_interest := goodIn_ca (goodIn_r _ [322, 150, 323, 324, 325, 2, 326, 155, 156, 157, 158, 159, 160, 14, 403, 404, 405, 406, 407, 408, 409, 410, 411, 412, 413, 388, 389] (by decide +kernel) (by decide +kernel)) (goodIn_sub (fun _ h => List.mem_append_right _ h) (by decide +kernel))
set_option maxRecDepth 20000 in
theorem gL_law_L_interest : GoodIn wsL_law (va_wsS RL 117 yL_interest wsL_interest) := goodIn_app (goodIn_of _ (by decide +kernel)) ggL_law_L_interest
set_option maxRecDepth 20000 in
theorem ggL_law_X2_interest : GoodIn wsL_law wsX2_interest := goodIn_r _ [330, 91, 28, 192, 193, 194, 5, 195, 92, 93, 94, 95, 96, 97, 98, 99, 390, 391, 392, 393, 394, 395, 396, 397, 398, 399, 400, 401, 402] (by decide +kernel) (by decide +kernel)
set_option maxRecDepth 20000 in
theorem gL_law_X2_interest : GoodIn wsL_law (wsV RL 119 RX2 yX2_interest wsX2_interest) := goodIn_app (goodIn_of _ (by decide +kernel)) ggL_law_X2_interest
set_option maxRecDepth 20000 in
theorem ggL_law_L_written : GoodIn wsL_law wsL_written := goodIn_ca (goodIn_r _ [333, 150, 334, 335, 336, 2, 337, 155, 156, 157, 158, 159, 160, 14, 403, 404, 405, 406, 407, 408, 409, 410, 411, 412, 413, 388, 389] (by decide +kernel) (by decide +kernel)) (goodIn_sub (fun _ h => List.mem_append_right _ h) (by decide +kernel))
set_option maxRecDepth 20000 in
theorem gL_law_L_written : GoodIn wsL_law (va_wsS RL 120 yL_written wsL_written) := goodIn_app (goodIn_of _ (by decide +kernel)) ggL_law_L_written
set_option maxRecDepth 20000 in
theorem ggL_law_X2_written : GoodIn wsL_law wsX2_written := goodIn_r _ [341, 91, 29, 192, 193, 194, 5, 195, 92, 93, 94, 95, 96, 97, 98, 99, 390, 391, 392, 393, 394, 395, 396, 397, 398, 399, 400, 401, 402] (by decide +kernel) (by decide +kernel)
set_option maxRecDepth 20000 in
theorem gL_law_X2_written : GoodIn wsL_law (wsV RL 122 RX2 yX2_written wsX2_written) := goodIn_app (goodIn_of _ (by decide +kernel)) ggL_law_X2_written
set_option maxRecDepth 20000 in
theorem ggL_law_L_paid : GoodIn wsL_law wsL_paid := goodIn_ca (goodIn_r _ [344, 150, 345, 346, 347, 2, 348, 155, 156, 157, 158, 159, 160, 14, 403, 404, 405, 406, 407, 408, 409, 410, 411, 412, 413, 388, 389] (by decide +kernel) (by decide +kernel)) (goodIn_sub (fun _ h => List.mem_append_right _ h) (by decide +kernel))
set_option maxRecDepth 20000 in
theorem gL_law_L_paid : GoodIn wsL_law (va_wsS RL 123 yL_paid wsL_paid) := goodIn_app (goodIn_of _ (by decide +kernel)) ggL_law_L_paid
set_option maxRecDepth 20000 in
theorem ggL_law_X2_paid : GoodIn wsL_law wsX2_paid := goodIn_r _ [352, 91, 30, 192, 193, 194, 5, 195, 92, 93, 94, 95, 96, 97, 98, 99, 390, 391, 392, 393, 394, 395, 396, 397, 398, 399, 400, 401, 402] (by decide +kernel) (by decide +kernel)
set_option maxRecDepth 20000 in
theorem gL_law_X2_paid : GoodIn wsL_law (wsV RL 125 RX2 yX2_paid wsX2_paid) := goodIn_app (goodIn_of _ (by decide +kernel)) ggL_law_X2_paid
set_option maxRecDepth 20000 in
theorem ggL_law_L_gains : GoodIn wsL_law wsL_gains := goodIn_ca (goodIn_r _ [355, 150, 356, 357, 358, 2, 359, 155, 156, 157, 158, 159, 160, 14, 403, 404, 405, 406, 407, 408, 409, 410, 411, 412, 413, 388, 389] (by decide +kernel) (by decide +kernel)) (goodIn_sub (fun _ h => List.mem_append_right _ h) (by decide +kernel))
set_option maxRecDepth 20000 in
theorem gL_law_L_gains : GoodIn wsL_law (va_wsS RL 126 yL_gains wsL_gains) := goodIn_app (goodIn_of _ (by decide +kernel)) ggL_law_L_gains
set_option maxRecDepth 20000 in
theorem ggL_law_X2_gains : GoodIn wsL_law wsX2_gains := goodIn_r _ [363, 91, 31, 192, 193, 194, 5, 195, 92, 93, 94, 95, 96, 97, 98, 99, 390, 391, 392, 393, 394, 395, 396, 397, 398, 399, 400, 401, 402] (by decide +kernel) (by decide +kernel)
set_option maxRecDepth 20000 in
theorem gL_law_X2_gains : GoodIn wsL_law (wsV RL 128 RX2 yX2_gains wsX2_gains) := goodIn_app (goodIn_of _ (by decide +kernel)) ggL_law_X2_gains
set_option maxRecDepth 20000 in
theorem ggL_law_L_rateFor : GoodIn wsL_law wsL_rateFor := goodIn_ca (goodIn_ca (goodIn_r _ [366, 150, 36, 367, 368, 369, 2, 370, 371, 155, 156, 157, 158, 159, 160, 14, 46, 47, 48, 49, 50, 301, 302, 303, 45, 304, 64, 75, 65, 76, 77, 78, 79, 80, 81, 82, 388, 389, 403, 404, 405, 406, 407, 408, 409, 410, 411, 412, 413] (by decide +kernel) (by decide +kernel)) (goodIn_sub (fun _ h => List.mem_append_right _ h) (by decide +kernel))) (goodIn_sub (fun _ h => List.mem_append_left _ (List.mem_append_right _ h)) (by decide +kernel))
set_option maxRecDepth 20000 in
theorem gL_law_L_rateFor : GoodIn wsL_law (va_wsS RL 129 yL_rateFor wsL_rateFor) := goodIn_app (goodIn_of _ (by decide +kernel)) ggL_law_L_rateFor
set_option maxRecDepth 20000 in
theorem ggL_law_X2_rateFor : GoodIn wsL_law wsX2_rateFor := goodIn_r _ [375, 91, 376, 23, 192, 193, 194, 5, 195, 92, 93, 94, 95, 96, 97, 98, 99, 104, 105, 106, 107, 108, 22, 21, 390, 391, 392, 393, 394, 395, 396, 397, 398, 399, 400, 401, 402] (by decide +kernel) (by decide +kernel)
set_option maxRecDepth 20000 in
theorem gL_law_X2_rateFor : GoodIn wsL_law (wsV RL 131 RX2 yX2_rateFor wsX2_rateFor) := goodIn_app (goodIn_of _ (by decide +kernel)) ggL_law_X2_rateFor
set_option maxRecDepth 20000 in
theorem ggL_law_L_saleGain : GoodIn wsL_law wsL_saleGain := goodIn_ca (goodIn_ca (goodIn_r _ [379, 150, 36, 380, 381, 382, 2, 383, 371, 155, 156, 157, 158, 159, 160, 14, 46, 47, 48, 49, 50, 186, 84, 85, 45, 86, 66, 75, 76, 77, 78, 388, 389, 403, 404, 405, 406, 407, 408, 409, 410, 411, 412, 413] (by decide +kernel) (by decide +kernel)) (goodIn_sub (fun _ h => List.mem_append_right _ h) (by decide +kernel))) (goodIn_sub (fun _ h => List.mem_append_left _ (List.mem_append_right _ h)) (by decide +kernel))
set_option maxRecDepth 20000 in
theorem gL_law_L_saleGain : GoodIn wsL_law (va_wsS RL 132 yL_saleGain wsL_saleGain) := goodIn_app (goodIn_of _ (by decide +kernel)) ggL_law_L_saleGain
set_option maxRecDepth 20000 in
theorem ggL_law_X2_saleGain : GoodIn wsL_law wsX2_saleGain := goodIn_r _ [387, 91, 376, 26, 192, 193, 194, 5, 195, 92, 93, 94, 95, 96, 97, 98, 99, 390, 391, 392, 393, 394, 395, 396, 397, 398, 399, 400, 401, 402] (by decide +kernel) (by decide +kernel)
set_option maxRecDepth 20000 in
theorem gL_law_X2_saleGain : GoodIn wsL_law (wsV RL 134 RX2 yX2_saleGain wsX2_saleGain) := goodIn_app (goodIn_of _ (by decide +kernel)) ggL_law_X2_saleGain
