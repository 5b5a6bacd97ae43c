set_option maxRecDepth 20000 in
theorem ggL_adds_X1_right : GoodIn wsL_adds wsX1_right := goodIn_ca (goodIn_r _ [5, 6, 7, 8, 4, 9, 10, 11, 12, 65, 66, 67, 68, 69, 70, 71, 72, 73, 74, 75, 76, 77] (by decide +kernel) (by decide +kernel)) (goodIn_sub (fun _ h => List.mem_cons_of_mem _ (List.mem_append_right _ h)) (by decide +kernel))
set_option maxRecDepth 20000 in
theorem gL_adds_X1_right : GoodIn wsL_adds (wsV RL 10 RX1 yX1_right wsX1_right) := goodIn_app (goodIn_of _ (by decide +kernel)) ggL_adds_X1_right
set_option maxRecDepth 20000 in
theorem ggL_adds_X1_written : GoodIn wsL_adds wsX1_written := goodIn_ca (goodIn_r _ [16, 6, 7, 8, 4, 9, 10, 11, 12, 65, 66, 67, 68, 69, 70, 71, 72, 73, 74, 75, 76, 77] (by decide +kernel) (by decide +kernel)) (goodIn_sub (fun _ h => List.mem_cons_of_mem _ (List.mem_append_right _ h)) (by decide +kernel))
set_option maxRecDepth 20000 in
theorem gL_adds_X1_written : GoodIn wsL_adds (wsV RL 16 RX1 yX1_written wsX1_written) := goodIn_app (goodIn_of _ (by decide +kernel)) ggL_adds_X1_written
set_option maxRecDepth 20000 in
theorem ggL_adds_X1_interest : GoodIn wsL_adds wsX1_interest := goodIn_ca (goodIn_r _ [20, 6, 7, 8, 4, 9, 10, 11, 12, 65, 66, 67, 68, 69, 70, 71, 72, 73, 74, 75, 76, 77] (by decide +kernel) (by decide +kernel)) (goodIn_sub (fun _ h => List.mem_cons_of_mem _ (List.mem_append_right _ h)) (by decide +kernel))
set_option maxRecDepth 20000 in
theorem gL_adds_X1_interest : GoodIn wsL_adds (wsV RL 19 RX1 yX1_interest wsX1_interest) := goodIn_app (goodIn_of _ (by decide +kernel)) ggL_adds_X1_interest
set_option maxRecDepth 20000 in
theorem ggL_adds_X1_debt : GoodIn wsL_adds wsX1_debt := goodIn_ca (goodIn_r _ [24, 6, 7, 8, 4, 9, 10, 11, 12, 25, 26, 27, 28, 29, 30, 31, 32, 33, 34, 76, 77, 65, 66, 67, 68, 69, 70, 71, 72, 73, 74, 75] (by decide +kernel) (by decide +kernel)) (goodIn_sub (fun _ h => List.mem_cons_of_mem _ (List.mem_append_right _ h)) (by decide +kernel))
set_option maxRecDepth 20000 in
theorem gL_adds_X1_debt : GoodIn wsL_adds (wsV RL 22 RX1 yX1_debt wsX1_debt) := goodIn_app (goodIn_of _ (by decide +kernel)) ggL_adds_X1_debt
set_option maxRecDepth 20000 in
theorem ggL_adds_X1_paid : GoodIn wsL_adds wsX1_paid := goodIn_ca (goodIn_r _ [38, 6, 7, 8, 4, 9, 10, 11, 12, 65, 66, 67, 68, 69, 70, 71, 72, 73, 74, 75, 76, 77] (by decide +kernel) (by decide +kernel)) (goodIn_sub (fun _ h => List.mem_cons_of_mem _ (List.mem_append_right _ h)) (by decide +kernel))
set_option maxRecDepth 20000 in
theorem gL_adds_X1_paid : GoodIn wsL_adds (wsV RL 25 RX1 yX1_paid wsX1_paid) := goodIn_app (goodIn_of _ (by decide +kernel)) ggL_adds_X1_paid
set_option maxRecDepth 20000 in
theorem ggL_adds_X1_gains : GoodIn wsL_adds wsX1_gains := goodIn_ca (goodIn_r _ [42, 6, 7, 8, 4, 9, 10, 11, 12, 65, 66, 67, 68, 69, 70, 71, 72, 73, 74, 75, 76, 77] (by decide +kernel) (by decide +kernel)) (goodIn_sub (fun _ h => List.mem_cons_of_mem _ (List.mem_append_right _ h)) (by decide +kernel))
set_option maxRecDepth 20000 in
theorem gL_adds_X1_gains : GoodIn wsL_adds (wsV RL 28 RX1 yX1_gains wsX1_gains) := goodIn_app (goodIn_of _ (by decide +kernel)) ggL_adds_X1_gains
set_option maxRecDepth 20000 in
theorem ggL_adds_X1_toCome : GoodIn wsL_adds wsX1_toCome := goodIn_ca (goodIn_r _ [46, 6, 7, 8, 4, 9, 10, 11, 12, 47, 48, 49, 28, 50, 51, 31, 76, 77, 65, 66, 67, 68, 69, 70, 71, 72, 73, 74, 75] (by decide +kernel) (by decide +kernel)) (goodIn_sub (fun _ h => List.mem_cons_of_mem _ (List.mem_append_right _ h)) (by decide +kernel))
set_option maxRecDepth 20000 in
theorem gL_adds_X1_toCome : GoodIn wsL_adds (wsV RL 31 RX1 yX1_toCome wsX1_toCome) := goodIn_app (goodIn_of _ (by decide +kernel)) ggL_adds_X1_toCome
set_option maxRecDepth 20000 in
theorem ggL_adds_X1_debtByWorth : GoodIn wsL_adds wsX1_debtByWorth := goodIn_ca (goodIn_r _ [55, 6, 7, 8, 4, 9, 10, 11, 12, 56, 57, 58, 28, 59, 51, 31, 60, 32, 33, 34, 61, 62, 63, 64, 65, 66, 67, 68, 69, 70, 71, 72, 73, 74, 75, 76, 77] (by decide +kernel) (by decide +kernel)) (goodIn_sub (fun _ h => List.mem_cons_of_mem _ (List.mem_append_right _ h)) (by decide +kernel))
set_option maxRecDepth 20000 in
theorem gL_adds_X1_debtByWorth : GoodIn wsL_adds (wsV RL 34 RX1 yX1_debtByWorth wsX1_debtByWorth) := goodIn_app (goodIn_of _ (by decide +kernel)) ggL_adds_X1_debtByWorth
theorem dL_adds_0 : decode cL_adds 0 = .ok (.aload_n 0, 1) := by decide +kernel
theorem dL_adds_1 : decode cL_adds 1 = .ok (.iload_n 1, 1) := by decide +kernel
theorem dL_adds_2 : decode cL_adds 2 = .ok (.invokevirtual 10, 3) := by decide +kernel
theorem dL_adds_5 : decode cL_adds 5 = .ok (.aload_n 0, 1) := by decide +kernel
theorem dL_adds_6 : decode cL_adds 6 = .ok (.iload_n 1, 1) := by decide +kernel
theorem dL_adds_7 : decode cL_adds 7 = .ok (.invokevirtual 16, 3) := by decide +kernel
theorem dL_adds_10 : decode cL_adds 10 = .ok (.iadd, 1) := by decide +kernel
theorem dL_adds_11 : decode cL_adds 11 = .ok (.aload_n 0, 1) := by decide +kernel
theorem dL_adds_12 : decode cL_adds 12 = .ok (.iload_n 1, 1) := by decide +kernel
theorem dL_adds_13 : decode cL_adds 13 = .ok (.invokevirtual 19, 3) := by decide +kernel
theorem dL_adds_16 : decode cL_adds 16 = .ok (.iadd, 1) := by decide +kernel
theorem dL_adds_17 : decode cL_adds 17 = .ok (.istore_n 3, 1) := by decide +kernel
theorem dL_adds_18 : decode cL_adds 18 = .ok (.aload_n 0, 1) := by decide +kernel
theorem dL_adds_19 : decode cL_adds 19 = .ok (.iload_n 1, 1) := by decide +kernel
theorem dL_adds_20 : decode cL_adds 20 = .ok (.invokevirtual 22, 3) := by decide +kernel
theorem dL_adds_23 : decode cL_adds 23 = .ok (.iload_n 2, 1) := by decide +kernel
theorem dL_adds_24 : decode cL_adds 24 = .ok (.iadd, 1) := by decide +kernel
theorem dL_adds_25 : decode cL_adds 25 = .ok (.aload_n 0, 1) := by decide +kernel
theorem dL_adds_26 : decode cL_adds 26 = .ok (.iload_n 1, 1) := by decide +kernel
theorem dL_adds_27 : decode cL_adds 27 = .ok (.invokevirtual 25, 3) := by decide +kernel
theorem dL_adds_30 : decode cL_adds 30 = .ok (.iadd, 1) := by decide +kernel
theorem dL_adds_31 : decode cL_adds 31 = .ok (.aload_n 0, 1) := by decide +kernel
theorem dL_adds_32 : decode cL_adds 32 = .ok (.iload_n 1, 1) := by decide +kernel
theorem dL_adds_33 : decode cL_adds 33 = .ok (.invokevirtual 28, 3) := by decide +kernel
theorem dL_adds_36 : decode cL_adds 36 = .ok (.iadd, 1) := by decide +kernel
theorem dL_adds_37 : decode cL_adds 37 = .ok (.istore 4, 2) := by decide +kernel
theorem dL_adds_39 : decode cL_adds 39 = .ok (.aload_n 0, 1) := by decide +kernel
theorem dL_adds_40 : decode cL_adds 40 = .ok (.iload_n 1, 1) := by decide +kernel
theorem dL_adds_41 : decode cL_adds 41 = .ok (.invokevirtual 31, 3) := by decide +kernel
theorem dL_adds_44 : decode cL_adds 44 = .ok (.ifCond .ne 7, 3) := by decide +kernel
theorem dL_adds_47 : decode cL_adds 47 = .ok (.iconst 1, 1) := by decide +kernel
theorem dL_adds_48 : decode cL_adds 48 = .ok (.goto 4, 3) := by decide +kernel
theorem dL_adds_51 : decode cL_adds 51 = .ok (.iconst 0, 1) := by decide +kernel
theorem dL_adds_52 : decode cL_adds 52 = .ok (.istore 5, 2) := by decide +kernel
theorem dL_adds_54 : decode cL_adds 54 = .ok (.iload_n 3, 1) := by decide +kernel
theorem dL_adds_55 : decode cL_adds 55 = .ok (.iload 4, 2) := by decide +kernel
theorem dL_adds_57 : decode cL_adds 57 = .ok (.if_icmp .ne 57, 3) := by decide +kernel
theorem dL_adds_60 : decode cL_adds 60 = .ok (.aload_n 0, 1) := by decide +kernel
theorem dL_adds_61 : decode cL_adds 61 = .ok (.iload_n 1, 1) := by decide +kernel
theorem dL_adds_62 : decode cL_adds 62 = .ok (.invokevirtual 22, 3) := by decide +kernel
theorem dL_adds_65 : decode cL_adds 65 = .ok (.aload_n 0, 1) := by decide +kernel
theorem dL_adds_66 : decode cL_adds 66 = .ok (.iload_n 1, 1) := by decide +kernel
theorem dL_adds_67 : decode cL_adds 67 = .ok (.invokevirtual 34, 3) := by decide +kernel
theorem dL_adds_70 : decode cL_adds 70 = .ok (.if_icmp .ne 44, 3) := by decide +kernel
theorem dL_adds_73 : decode cL_adds 73 = .ok (.aload_n 0, 1) := by decide +kernel
theorem dL_adds_74 : decode cL_adds 74 = .ok (.iload_n 1, 1) := by decide +kernel
theorem dL_adds_75 : decode cL_adds 75 = .ok (.invokevirtual 10, 3) := by decide +kernel
theorem dL_adds_78 : decode cL_adds 78 = .ok (.ifCond .lt 36, 3) := by decide +kernel
theorem dL_adds_81 : decode cL_adds 81 = .ok (.aload_n 0, 1) := by decide +kernel
theorem dL_adds_82 : decode cL_adds 82 = .ok (.iload_n 1, 1) := by decide +kernel
theorem dL_adds_83 : decode cL_adds 83 = .ok (.invokevirtual 19, 3) := by decide +kernel
theorem dL_adds_86 : decode cL_adds 86 = .ok (.ifCond .lt 28, 3) := by decide +kernel
theorem dL_adds_89 : decode cL_adds 89 = .ok (.iload 5, 2) := by decide +kernel
theorem dL_adds_91 : decode cL_adds 91 = .ok (.ifCond .eq 19, 3) := by decide +kernel
theorem dL_adds_94 : decode cL_adds 94 = .ok (.aload_n 0, 1) := by decide +kernel
theorem dL_adds_95 : decode cL_adds 95 = .ok (.iload_n 1, 1) := by decide +kernel
theorem dL_adds_96 : decode cL_adds 96 = .ok (.invokevirtual 22, 3) := by decide +kernel
theorem dL_adds_99 : decode cL_adds 99 = .ok (.ifCond .ne 15, 3) := by decide +kernel
theorem dL_adds_102 : decode cL_adds 102 = .ok (.aload_n 0, 1) := by decide +kernel
theorem dL_adds_103 : decode cL_adds 103 = .ok (.iload_n 1, 1) := by decide +kernel
theorem dL_adds_104 : decode cL_adds 104 = .ok (.invokevirtual 10, 3) := by decide +kernel
theorem dL_adds_107 : decode cL_adds 107 = .ok (.ifCond .ne 7, 3) := by decide +kernel
theorem dL_adds_110 : decode cL_adds 110 = .ok (.iconst 1, 1) := by decide +kernel
theorem dL_adds_111 : decode cL_adds 111 = .ok (.goto 4, 3) := by decide +kernel
theorem dL_adds_114 : decode cL_adds 114 = .ok (.iconst 0, 1) := by decide +kernel
theorem dL_adds_115 : decode cL_adds 115 = .ok (.ireturn, 1) := by decide +kernel
set_option maxRecDepth 20000 in
theorem ggL_law_X1_init : GoodIn wsL_law wsX1_init := goodIn_r _ [6, 7, 8, 9, 10, 11, 12, 198, 199] (by decide +kernel) (by decide +kernel)
set_option maxRecDepth 20000 in
theorem gL_law_X1_init : GoodIn wsL_law (wsX1_init) := ggL_law_X1_init
set_option maxRecDepth 20000 in
theorem ggL_law_L_cell : GoodIn wsL_law wsL_cell := goodIn_r _ [16, 17, 18] (by decide +kernel) (by decide +kernel)
set_option maxRecDepth 20000 in
theorem gL_law_L_cell : GoodIn wsL_law (va_wsS RL 38 yL_cell wsL_cell) := goodIn_app (goodIn_of _ (by decide +kernel)) ggL_law_L_cell
set_option maxRecDepth 20000 in
theorem ggL_law_L_low : GoodIn wsL_law wsL_low := goodIn_r _ [21, 22] (by decide +kernel) (by decide +kernel)
set_option maxRecDepth 20000 in
theorem gL_law_L_low : GoodIn wsL_law (va_wsS RL 44 yL_low wsL_low) := goodIn_app (goodIn_of _ (by decide +kernel)) ggL_law_L_low
set_option maxRecDepth 20000 in
theorem ggL_law_X1_toCome : GoodIn wsL_law wsX1_toCome := goodIn_ca (goodIn_r _ [26, 27, 28, 29, 2, 30, 31, 32, 11, 33, 34, 35, 36, 37, 38, 39, 198, 199, 200, 201, 202, 203, 204, 205, 206, 207, 208, 209, 210] (by decide +kernel) (by decide +kernel)) (goodIn_sub (fun _ h => List.mem_append_left _ (List.mem_append_left _ (List.mem_append_right _ h))) (by decide +kernel))
set_option maxRecDepth 20000 in
theorem gL_law_X1_toCome : GoodIn wsL_law (wsV RL 31 RX1 yX1_toCome wsX1_toCome) := goodIn_app (goodIn_of _ (by decide +kernel)) ggL_law_X1_toCome
set_option maxRecDepth 20000 in
theorem ggL_law_X1_add : GoodIn wsL_law wsX1_add := goodIn_ca (goodIn_ca (goodIn_r _ [43, 44, 45, 12, 11, 10, 46, 36, 47, 48, 2, 49, 50, 51, 52, 53, 54, 55, 8, 9, 56, 57, 58, 59, 60, 61, 62, 63, 64, 38, 3, 65, 66, 67, 68, 69, 70, 71, 72, 73, 74, 39, 75, 76, 77, 78, 79, 80, 81, 82, 83, 84, 85, 198, 199, 200, 201, 202, 203, 204, 205, 206, 207, 208, 209, 210] (by decide +kernel) (by decide +kernel)) (goodIn_sub (fun _ h => List.mem_append_left _ (List.mem_append_right _ h)) (by decide +kernel))) (goodIn_sub (fun _ h => List.mem_append_right _ h) (by decide +kernel))
set_option maxRecDepth 20000 in
theorem gL_law_X1_add : GoodIn wsL_law (wsV RL 48 RX1 yX1_add wsX1_add) := goodIn_app (goodIn_of _ (by decide +kernel)) ggL_law_X1_add
set_option maxRecDepth 20000 in
theorem ggL_law_X1_pass : GoodIn wsL_law wsX1_pass := goodIn_ca (goodIn_r _ [89, 11, 47, 48, 2, 49, 50, 51, 90, 91, 92, 36, 93, 58, 59, 60, 61, 94, 34, 35, 37, 38, 39, 95, 96, 97, 98, 65, 99, 66, 100, 57, 67, 101, 75, 76, 77, 198, 199, 200, 201, 202, 203, 204, 205, 206, 207, 208, 209, 210] (by decide +kernel) (by decide +kernel)) (goodIn_sub (fun _ h => List.mem_append_right _ h) (by decide +kernel))
set_option maxRecDepth 20000 in
theorem gL_law_X1_pass : GoodIn wsL_law (wsV RL 52 RX1 yX1_pass wsX1_pass) := goodIn_app (goodIn_of _ (by decide +kernel)) ggL_law_X1_pass
set_option maxRecDepth 20000 in
theorem ggL_law_X1_review : GoodIn wsL_law wsX1_review := goodIn_ca (goodIn_ca (goodIn_ca (goodIn_r _ [105, 44, 45, 27, 28, 29, 2, 30, 31, 32, 11, 47, 48, 49, 50, 51, 106, 107, 108, 33, 34, 35, 36, 37, 38, 39, 109, 110, 111, 112, 65, 81, 75, 76, 77, 113, 114, 115, 116, 117, 118, 119, 120, 121, 122, 123, 124, 68, 69, 70, 125, 126, 127, 128, 67, 129, 82, 83, 84, 85, 66, 71, 72, 73, 74, 56, 78, 79, 80, 130, 198, 199, 200, 201, 202, 203, 204, 205, 206, 207, 208, 209, 210] (by decide +kernel) (by decide +kernel)) (goodIn_sub (fun _ h => List.mem_append_left _ (List.mem_append_right _ h)) (by decide +kernel))) (goodIn_sub (fun _ h => List.mem_append_left _ (List.mem_append_left _ (List.mem_append_right _ h))) (by decide +kernel))) (goodIn_sub (fun _ h => List.mem_append_right _ h) (by decide +kernel))
set_option maxRecDepth 20000 in
theorem gL_law_X1_review : GoodIn wsL_law (wsV RL 55 RX1 yX1_review wsX1_review) := goodIn_app (goodIn_of _ (by decide +kernel)) ggL_law_X1_review
set_option maxRecDepth 20000 in
theorem ggL_law_X1_debt : GoodIn wsL_law wsX1_debt := goodIn_ca (goodIn_r _ [134, 27, 28, 29, 2, 30, 31, 32, 11, 130, 83, 84, 36, 85, 66, 39, 75, 76, 77, 198, 199, 200, 201, 202, 203, 204, 205, 206, 207, 208, 209, 210] (by decide +kernel) (by decide +kernel)) (goodIn_sub (fun _ h => List.mem_append_left _ (List.mem_append_left _ (List.mem_append_right _ h))) (by decide +kernel))
set_option maxRecDepth 20000 in
theorem gL_law_X1_debt : GoodIn wsL_law (wsV RL 22 RX1 yX1_debt wsX1_debt) := goodIn_app (goodIn_of _ (by decide +kernel)) ggL_law_X1_debt
set_option maxRecDepth 20000 in
theorem ggL_law_X1_lengthen : GoodIn wsL_law wsX1_lengthen := goodIn_ca (goodIn_ca (goodIn_ca (goodIn_r _ [138, 44, 45, 27, 28, 29, 2, 30, 31, 32, 11, 47, 48, 49, 50, 51, 106, 107, 108, 33, 34, 35, 36, 37, 38, 39, 139, 140, 141, 142, 143, 144, 145, 146, 58, 59, 60, 61, 65, 68, 69, 70, 125, 126, 127, 128, 67, 129, 82, 83, 84, 85, 66, 75, 76, 77, 71, 72, 73, 74, 56, 78, 79, 80, 81, 130, 198, 199, 200, 201, 202, 203, 204, 205, 206, 207, 208, 209, 210] (by decide +kernel) (by decide +kernel)) (goodIn_sub (fun _ h => List.mem_append_left _ (List.mem_append_right _ h)) (by decide +kernel))) (goodIn_sub (fun _ h => List.mem_append_left _ (List.mem_append_left _ (List.mem_append_right _ h))) (by decide +kernel))) (goodIn_sub (fun _ h => List.mem_append_right _ h) (by decide +kernel))
set_option maxRecDepth 20000 in
theorem gL_law_X1_lengthen : GoodIn wsL_law (wsV RL 58 RX1 yX1_lengthen wsX1_lengthen) := goodIn_app (goodIn_of _ (by decide +kernel)) ggL_law_X1_lengthen
set_option maxRecDepth 20000 in
theorem ggL_law_X1_gains : GoodIn wsL_law wsX1_gains := goodIn_ca (goodIn_r _ [150, 27, 28, 29, 2, 30, 31, 32, 11, 200, 201, 202, 203, 204, 205, 206, 207, 208, 209, 210, 198, 199] (by decide +kernel) (by decide +kernel)) (goodIn_sub (fun _ h => List.mem_append_left _ (List.mem_append_left _ (List.mem_append_right _ h))) (by decide +kernel))
set_option maxRecDepth 20000 in
theorem gL_law_X1_gains : GoodIn wsL_law (wsV RL 28 RX1 yX1_gains wsX1_gains) := goodIn_app (goodIn_of _ (by decide +kernel)) ggL_law_X1_gains
set_option maxRecDepth 20000 in
theorem ggL_law_X1_shorten : GoodIn wsL_law wsX1_shorten := goodIn_ca (goodIn_ca (goodIn_ca (goodIn_r _ [154, 44, 45, 27, 28, 29, 2, 30, 31, 32, 11, 47, 48, 49, 50, 51, 33, 34, 35, 36, 37, 38, 39, 155, 156, 157, 158, 67, 94, 159, 160, 161, 162, 129, 82, 83, 84, 85, 66, 75, 76, 77, 71, 72, 73, 74, 65, 56, 68, 69, 70, 78, 79, 80, 81, 198, 199, 200, 201, 202, 203, 204, 205, 206, 207, 208, 209, 210] (by decide +kernel) (by decide +kernel)) (goodIn_sub (fun _ h => List.mem_append_left _ (List.mem_append_right _ h)) (by decide +kernel))) (goodIn_sub (fun _ h => List.mem_append_left _ (List.mem_append_left _ (List.mem_append_right _ h))) (by decide +kernel))) (goodIn_sub (fun _ h => List.mem_append_right _ h) (by decide +kernel))
set_option maxRecDepth 20000 in
theorem gL_law_X1_shorten : GoodIn wsL_law (wsV RL 62 RX1 yX1_shorten wsX1_shorten) := goodIn_app (goodIn_of _ (by decide +kernel)) ggL_law_X1_shorten
set_option maxRecDepth 20000 in
theorem ggL_law_X1_cut : GoodIn wsL_law wsX1_cut := goodIn_ca (goodIn_ca (goodIn_ca (goodIn_r _ [166, 27, 28, 29, 2, 30, 31, 32, 11, 47, 48, 49, 50, 51, 106, 107, 108, 44, 45, 33, 34, 35, 36, 37, 38, 39, 167, 168, 169, 170, 67, 121, 122, 123, 124, 65, 75, 76, 77, 113, 114, 115, 116, 68, 69, 70, 159, 160, 161, 162, 129, 82, 83, 84, 85, 66, 71, 72, 73, 74, 56, 78, 79, 80, 81, 198, 199, 200, 201, 202, 203, 204, 205, 206, 207, 208, 209, 210] (by decide +kernel) (by decide +kernel)) (goodIn_sub (fun _ h => List.mem_append_left _ (List.mem_append_left _ (List.mem_append_right _ h))) (by decide +kernel))) (goodIn_sub (fun _ h => List.mem_append_right _ h) (by decide +kernel))) (goodIn_sub (fun _ h => List.mem_append_left _ (List.mem_append_right _ h)) (by decide +kernel))
set_option maxRecDepth 20000 in
theorem gL_law_X1_cut : GoodIn wsL_law (wsV RL 65 RX1 yX1_cut wsX1_cut) := goodIn_app (goodIn_of _ (by decide +kernel)) ggL_law_X1_cut
set_option maxRecDepth 20000 in
theorem ggL_law_L_adds : GoodIn wsL_law wsL_adds := goodIn_ca (goodIn_r _ [173, 174, 175, 176, 2, 177, 27, 28, 29, 30, 31, 32, 11, 178, 179, 180, 181, 182, 183, 184, 185, 131, 132, 133, 134, 130, 83, 84, 36, 85, 66, 39, 75, 76, 77, 186, 187, 188, 189, 147, 148, 149, 150, 23, 24, 25, 26, 33, 34, 35, 37, 38, 190, 191, 192, 193, 194, 195, 196, 197, 65, 78, 79, 80, 81, 200, 201, 202, 203, 204, 205, 206, 207, 208, 209, 210, 198, 199] (by decide +kernel) (by decide +kernel)) (goodIn_sub (fun _ h => List.mem_append_left _ (List.mem_append_left _ (List.mem_append_right _ h))) (by decide +kernel))
set_option maxRecDepth 20000 in
theorem gL_law_L_adds : GoodIn wsL_law (va_wsS RL 68 yL_adds wsL_adds) := goodIn_app (goodIn_of _ (by decide +kernel)) ggL_law_L_adds
